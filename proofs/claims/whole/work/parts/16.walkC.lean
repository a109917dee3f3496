abbrev rmX6_without : Room := { frames := 5, cells := 0, slots := 0, locals := 114 }
set_option maxHeartbeats 4000000 in
set_option maxRecDepth 100000 in
theorem kX6_without {l : Launch} {D : va_G} {a : Nat → Nat} {cI cJ cC : ClassId} {adK adV : Nat → Nat} {x1 : Int32} {x2 : Int32} {x3 : Int32} {s τ : ZS} {r : Int32} (h : fX6_without x1 x2 x3 s = some (r, τ)) : zMi (zcC a cI cJ cC) 41 a D [(cI, .int), (cJ, .long)] (zEC adK adV) l yX6_without wsX6_without rmX6_without [.ref (a 0), .int x1, .int x2, .int x3] s r τ := by
  refine z_start (cc := cX6_without) (maxL := 8) (ret := (some .int)) RX6 rfl (by decide) rfl (Nat.le_of_ble_eq_true rfl) ?_
  intro p e st m args below meth c ls H locs X hr hlocks hA hE hP hS hl
  obtain ⟨hx, hb, hml, hown, hts, -⟩ := id X
  have hG := zEC_good adK adV
  have inX3 : ∀ w ∈ u_ws RX3 TX3 10, w ∈ wsX6_without := by decide +kernel
  have inX6 : ∀ w ∈ u_ws RX6 TX6 12, w ∈ wsX6_without := by decide +kernel
  have w146 : ∀ (k81 : Int32 → Int32 → Int32 → Int32 → Int32 → Int32 → ZS → Option (Int32 × ZS)) (hk81 : ∀ (x1 : Int32) (x2 : Int32) (x3 : Int32) (x4 : Int32) (x5 : Int32) (x6 : Int32) (s : ZS) (H : Heap) (locs : List Loc) (ls : Array Slot), k81 x1 x2 x3 x4 x5 x6 s = some (r, τ) → va_P D vwCl (zW (zcC a cI cJ cC) 41 a s) H → va_S (zF 41 a st.heap.size) st.heap H locs → lv_has ls 8 [(0, .ref (a 0)), (1, .int x1), (2, .int x2), (3, .int x3), (4, .int x4), (5, .int x5), (6, .int x6)] → W p l e rmX6_without st m args below meth c H locs 0 0 (MQ below (va_Qi (fun (r' : Int32) (τ' : ZS) => r' = r ∧ τ' = τ) (zPost (zcC a cI cJ cC) 41 a D [(cI, .int), (cJ, .long)]) (zF 41 a st.heap.size)) args st 0 0 (zF 41 a st.heap.size)) (F0 m 81 ls [])) (x1 : Int32) (x2 : Int32) (x3 : Int32) (x4 : Int32) (x5 : Int32) (x6 : Int32) (s : ZS) (H : Heap) (locs : List Loc) (ls : Array Slot), fX6_without_146 k81 x1 x2 x3 x4 x5 x6 s = some (r, τ) → va_P D vwCl (zW (zcC a cI cJ cC) 41 a s) H → va_S (zF 41 a st.heap.size) st.heap H locs → lv_has ls 8 [(0, .ref (a 0)), (1, .int x1), (2, .int x2), (3, .int x3), (4, .int x4), (5, .int x5), (6, .int x6)] → W p l e rmX6_without st m args below meth c H locs 0 0 (MQ below (va_Qi (fun (r' : Int32) (τ' : ZS) => r' = r ∧ τ' = τ) (zPost (zcC a cI cJ cC) 41 a D [(cI, .int), (cJ, .long)]) (zF 41 a st.heap.size)) args st 0 0 (zF 41 a st.heap.size)) (F0 m 146 ls []) := by
    intro k81 hk81 x1 x2 x3 x4 x5 x6 s H locs ls h hP hS hl
    refine lv_iinc (v := (x6 + (1 : Int32))) (lv' := [(6, .int (x6 + (1 : Int32))), (0, .ref (a 0)), (1, .int x1), (2, .int x2), (3, .int x3), (4, .int x4), (5, .int x5)]) hx hb dX6_without_146 hl (k := 6) rfl rfl (by decide) rfl (fun ls hl => ?_)
    refine lv_goto (tgt := 81) hx hb dX6_without_149 (by decide) ?_
    exact hk81 (x1) (x2) (x3) (x4) (x5) ((x6 + (1 : Int32))) (s) _ _ _ h hP hS (lv_sub hl [1, 2, 3, 4, 5, 6, 0] rfl)
  have w81 : ∀  (n : Nat) (x1 : Int32) (x2 : Int32) (x3 : Int32) (x4 : Int32) (x5 : Int32) (x6 : Int32) (s : ZS) (H : Heap) (locs : List Loc) (ls : Array Slot), fX6_without_81n  n (x1, x2, x3, x4, x5, x6, s) = some (r, τ) → va_P D vwCl (zW (zcC a cI cJ cC) 41 a s) H → va_S (zF 41 a st.heap.size) st.heap H locs → lv_has ls 8 [(0, .ref (a 0)), (1, .int x1), (2, .int x2), (3, .int x3), (4, .int x4), (5, .int x5), (6, .int x6)] → W p l e rmX6_without st m args below meth c H locs 0 0 (MQ below (va_Qi (fun (r' : Int32) (τ' : ZS) => r' = r ∧ τ' = τ) (zPost (zcC a cI cJ cC) 41 a D [(cI, .int), (cJ, .long)]) (zF 41 a st.heap.size)) args st 0 0 (zF 41 a st.heap.size)) (F0 m 81 ls []) := by
    intro  n
    induction n with
    | zero => intro x1 x2 x3 x4 x5 x6 s H locs ls h; exact zloop_0 h
    | succ n ih =>
      intro x1 x2 x3 x4 x5 x6 s H locs ls h hP hS hl
      have h : fX6_without_81b  (fun x1 x2 x3 x4 x5 x6 s => fX6_without_81n  n (x1, x2, x3, x4, x5, x6, s)) x1 x2 x3 x4 x5 x6 s = some (r, τ) := h
      refine lv_iload hx hb dX6_without_81 (lv_at hl 6 rfl) ?_
      refine lv_aload_n hx hb dX6_without_83 rfl (lv_at hl 0 rfl) ?_
      refine z_get (C := RX6) (T := TX6) (N := 12) X inX6 hP 0 (by decide) (zcC_0 _ _ _ _ _ _) rfl 0 (by decide) rfl (by decide +kernel) rfl dX6_without_84 ?_
      refine z_get (C := RX3) (T := TX3) (N := 10) X inX3 hP 1 (by decide) (zcC_1 _ _ _ _ _ _) rfl 5 (by decide) rfl (by decide +kernel) rfl dX6_without_87 ?_
      refine lv_iload_n hx hb dX6_without_90 rfl (lv_at hl 1 rfl) ?_
      obtain ⟨g1, h⟩ := zg_some h
      refine z_iald X hP 5 0 (by decide) (zcC_5 _ _ _ _ _ _) rfl g1 dX6_without_91 ?_
      refine lv_icmp_ge (tgt := 152) hx hb dX6_without_92 (by decide) (fun c2 => ?_) (fun c2 => ?_)
      · have h := zif_t h c2
        refine lv_iload_n hx hb dX6_without_152 rfl (lv_at hl 3 rfl) ?_
        refine lv_if_ne (tgt := 161) hx hb dX6_without_153 (by decide) (fun c3 => ?_) (fun c3 => ?_)
        · have h := zif_f h c3
          refine lv_iload hx hb dX6_without_161 (lv_at hl 4 rfl) ?_
          exact z_iret X hP hS hr hlocks h dX6_without_163
        · have h := zif_t h c3
          refine lv_iload hx hb dX6_without_156 (lv_at hl 5 rfl) ?_
          refine lv_goto (tgt := 163) hx hb dX6_without_158 (by decide) ?_
          exact z_iret X hP hS hr hlocks h dX6_without_163
      · have h := zif_f h c2
        refine lv_aload_n hx hb dX6_without_95 rfl (lv_at hl 0 rfl) ?_
        refine z_get (C := RX6) (T := TX6) (N := 12) X inX6 hP 0 (by decide) (zcC_0 _ _ _ _ _ _) rfl 3 (by decide) rfl (by decide +kernel) rfl dX6_without_96 ?_
        refine lv_iload_n hx hb dX6_without_99 rfl (lv_at hl 1 rfl) ?_
        refine lv_iload hx hb dX6_without_100 (lv_at hl 6 rfl) ?_
        obtain ⟨u4, s4, e4, h⟩ := zb_some h
        refine z_callv hS (z_runV (As := [.int x1, .int x6]) (rest := []) X hG hA hE hP hS 19 (kX0_pileStackWithout (l := l) (D := D) (a := a) (cI := cI) (cJ := cJ) (cC := cC) (adK := adK) (adV := adV) e4 _) (cwV 2 hts gX6_without_X0_pileStackWithout rfl rfl rfl (by decide +kernel) ⟨Nat.le_of_ble_eq_true rfl, Nat.le_of_ble_eq_true rfl⟩) (by decide) (zcC_19 _ _ _ _ _ _) rfl rfl rfl hl.1 rfl (Nat.le_of_ble_eq_true rfl) dX6_without_102) (fun H locs hP hS => ?_)
        refine lv_aload_n hx hb dX6_without_105 rfl (lv_at hl 0 rfl) ?_
        refine z_get (C := RX6) (T := TX6) (N := 12) X inX6 hP 0 (by decide) (zcC_0 _ _ _ _ _ _) rfl 3 (by decide) rfl (by decide +kernel) rfl dX6_without_106 ?_
        refine lv_aload_n hx hb dX6_without_109 rfl (lv_at hl 0 rfl) ?_
        refine z_get (C := RX6) (T := TX6) (N := 12) X inX6 hP 0 (by decide) (zcC_0 _ _ _ _ _ _) rfl 9 (by decide) rfl (by decide +kernel) rfl dX6_without_110 ?_
        refine lv_iload_n hx hb dX6_without_113 rfl (lv_at hl 2 rfl) ?_
        refine lv_iconst (v := 0) hx hb dX6_without_114 (by decide) ?_
        obtain ⟨u5, s5, e5, h⟩ := zb_some h
        refine z_callv hS (z_runV (As := [.ref (a 38), .int x2, .int (0 : Int32)]) (rest := []) X hG hA hE hP hS 19 (kX0_shadesInto_19_38 (l := l) (D := D) (a := a) (cI := cI) (cJ := cJ) (cC := cC) (adK := adK) (adV := adV) e5 _) (cwV 3 hts gX6_without_X0_shadesInto rfl rfl rfl (by decide +kernel) ⟨Nat.le_of_ble_eq_true rfl, Nat.le_of_ble_eq_true rfl⟩) (by decide) (zcC_19 _ _ _ _ _ _) rfl rfl rfl hl.1 rfl (Nat.le_of_ble_eq_true rfl) dX6_without_115) (fun H locs hP hS => ?_)
        refine lv_aload_n hx hb dX6_without_118 rfl (lv_at hl 0 rfl) ?_
        refine z_get (C := RX6) (T := TX6) (N := 12) X inX6 hP 0 (by decide) (zcC_0 _ _ _ _ _ _) rfl 8 (by decide) rfl (by decide +kernel) rfl dX6_without_119 ?_
        refine lv_aload_n hx hb dX6_without_122 rfl (lv_at hl 0 rfl) ?_
        refine z_get (C := RX6) (T := TX6) (N := 12) X inX6 hP 0 (by decide) (zcC_0 _ _ _ _ _ _) rfl 9 (by decide) rfl (by decide +kernel) rfl dX6_without_123 ?_
        obtain ⟨u6, s6, e6, h⟩ := zb_some h
        refine z_calli hS (z_runS (As := [.ref (a 37), .ref (a 38)]) (rest := []) X hG hA hE hP hS (kX6_differing_37_38 (l := l) (D := D) (a := a) (cI := cI) (cJ := cJ) (cC := cC) (adK := adK) (adV := adV) e6 _) (va_cwS 2 hts gX6_without_X6_differing rfl rfl rfl (by decide +kernel) ⟨Nat.le_of_ble_eq_true rfl, Nat.le_of_ble_eq_true rfl⟩) rfl hl.1 rfl (Nat.le_of_ble_eq_true rfl) dX6_without_126) (fun H locs hP hS => ?_)
        refine lv_istore (lv' := [(7, .int u6), (0, .ref (a 0)), (1, .int x1), (2, .int x2), (3, .int x3), (4, .int x4), (5, .int x5), (6, .int x6)]) hx hb dX6_without_129 hl (by decide) rfl (fun ls hl => ?_)
        refine lv_iload hx hb dX6_without_131 (lv_at hl 0 rfl) ?_
        refine lv_iload hx hb dX6_without_133 (lv_at hl 5 rfl) ?_
        refine lv_icmp_le (tgt := 146) hx hb dX6_without_135 (by decide) (fun c7 => ?_) (fun c7 => ?_)
        · have h := zif_t h c7
          exact w146 (fun x1 x2 x3 x4 x5 x6 s => fX6_without_81n  n (x1, x2, x3, x4, x5, x6, s)) (fun x1 x2 x3 x4 x5 x6 s H locs ls h hP hS hl => ih x1 x2 x3 x4 x5 x6 s H locs ls h hP hS hl)  (x1) (x2) (x3) (x4) (x5) (x6) (s6) _ _ _ h hP hS (lv_sub hl [1, 2, 3, 4, 5, 6, 7] rfl)
        · have h := zif_f h c7
          refine lv_iload hx hb dX6_without_138 (lv_at hl 0 rfl) ?_
          refine lv_istore (lv' := [(4, .int u6), (7, .int u6), (0, .ref (a 0)), (1, .int x1), (2, .int x2), (3, .int x3), (5, .int x5), (6, .int x6)]) hx hb dX6_without_140 hl (by decide) rfl (fun ls hl => ?_)
          refine lv_iload hx hb dX6_without_142 (lv_at hl 7 rfl) ?_
          refine lv_istore (lv' := [(5, .int x6), (4, .int u6), (7, .int u6), (0, .ref (a 0)), (1, .int x1), (2, .int x2), (3, .int x3), (6, .int x6)]) hx hb dX6_without_144 hl (by decide) rfl (fun ls hl => ?_)
          exact w146 (fun x1 x2 x3 x4 x5 x6 s => fX6_without_81n  n (x1, x2, x3, x4, x5, x6, s)) (fun x1 x2 x3 x4 x5 x6 s H locs ls h hP hS hl => ih x1 x2 x3 x4 x5 x6 s H locs ls h hP hS hl)  (x1) (x2) (x3) (u6) (x6) (x6) (s6) _ _ _ h hP hS (lv_sub hl [3, 4, 5, 6, 1, 0, 7] rfl)
  have hl : lv_has ls 8 [(0, .ref (a 0)), (1, .int x1), (2, .int x2), (3, .int x3)] := hl
  refine lv_aload_n hx hb dX6_without_0 rfl (lv_at hl 0 rfl) ?_
  refine z_get (C := RX6) (T := TX6) (N := 12) X inX6 hP 0 (by decide) (zcC_0 _ _ _ _ _ _) rfl 0 (by decide) rfl (by decide +kernel) rfl dX6_without_1 ?_
  refine lv_iload_n hx hb dX6_without_4 rfl (lv_at hl 1 rfl) ?_
  obtain ⟨u1, s1, e1, h⟩ := zb_some h
  refine z_calli hS (z_runV (As := [.int x1]) (rest := []) X hG hA hE hP hS 1 (kX3_hasStack (l := l) (D := D) (a := a) (cI := cI) (cJ := cJ) (cC := cC) (adK := adK) (adV := adV) e1 _) (cwV 1 hts gX6_without_X3_hasStack rfl rfl rfl (by decide +kernel) ⟨Nat.le_of_ble_eq_true rfl, Nat.le_of_ble_eq_true rfl⟩) (by decide) (zcC_1 _ _ _ _ _ _) rfl rfl rfl hl.1 rfl (Nat.le_of_ble_eq_true rfl) dX6_without_5) (fun H locs hP hS => ?_)
  refine lv_if_eq (tgt := 27) hx hb dX6_without_8 (by decide) (fun c2 => ?_) (fun c2 => ?_)
  · have h := zif_t h c2
    refine lv_iconst (v := -1) hx hb dX6_without_27 (by decide) ?_
    exact z_iret X hP hS hr hlocks h dX6_without_28
  · have h := zif_f h c2
    refine lv_iload_n hx hb dX6_without_11 rfl (lv_at hl 2 rfl) ?_
    refine lv_iconst (v := 3) hx hb dX6_without_12 (by decide) ?_
    obtain ⟨u3, s3, e3, h⟩ := zb_some h
    refine z_calli hS (z_runS (As := [.int x2, .int (3 : Int32)]) (rest := []) X hG hA hE hP hS (kX6_within (l := l) (D := D) (a := a) (cI := cI) (cJ := cJ) (cC := cC) (adK := adK) (adV := adV) e3 _) (va_cwS 2 hts gX6_without_X6_within rfl rfl rfl (by decide +kernel) ⟨Nat.le_of_ble_eq_true rfl, Nat.le_of_ble_eq_true rfl⟩) rfl hl.1 rfl (Nat.le_of_ble_eq_true rfl) dX6_without_13) (fun H locs hP hS => ?_)
    refine lv_if_eq (tgt := 27) hx hb dX6_without_16 (by decide) (fun c4 => ?_) (fun c4 => ?_)
    · have h := zif_t h c4
      refine lv_iconst (v := -1) hx hb dX6_without_27 (by decide) ?_
      exact z_iret X hP hS hr hlocks h dX6_without_28
    · have h := zif_f h c4
      refine lv_iload_n hx hb dX6_without_19 rfl (lv_at hl 3 rfl) ?_
      refine lv_iconst (v := 2) hx hb dX6_without_20 (by decide) ?_
      obtain ⟨u5, s5, e5, h⟩ := zb_some h
      refine z_calli hS (z_runS (As := [.int x3, .int (2 : Int32)]) (rest := []) X hG hA hE hP hS (kX6_within (l := l) (D := D) (a := a) (cI := cI) (cJ := cJ) (cC := cC) (adK := adK) (adV := adV) e5 _) (va_cwS 2 hts gX6_without_X6_within rfl rfl rfl (by decide +kernel) ⟨Nat.le_of_ble_eq_true rfl, Nat.le_of_ble_eq_true rfl⟩) rfl hl.1 rfl (Nat.le_of_ble_eq_true rfl) dX6_without_21) (fun H locs hP hS => ?_)
      refine lv_if_ne (tgt := 29) hx hb dX6_without_24 (by decide) (fun c6 => ?_) (fun c6 => ?_)
      · have h := zif_f h c6
        refine lv_aload_n hx hb dX6_without_29 rfl (lv_at hl 0 rfl) ?_
        refine z_get (C := RX6) (T := TX6) (N := 12) X inX6 hP 0 (by decide) (zcC_0 _ _ _ _ _ _) rfl 0 (by decide) rfl (by decide +kernel) rfl dX6_without_30 ?_
        refine z_get (C := RX3) (T := TX3) (N := 10) X inX3 hP 1 (by decide) (zcC_1 _ _ _ _ _ _) rfl 5 (by decide) rfl (by decide +kernel) rfl dX6_without_33 ?_
        refine lv_iload_n hx hb dX6_without_36 rfl (lv_at hl 1 rfl) ?_
        obtain ⟨g7, h⟩ := zg_some h
        refine z_iald X hP 5 0 (by decide) (zcC_5 _ _ _ _ _ _) rfl g7 dX6_without_37 ?_
        refine lv_if_ne (tgt := 44) hx hb dX6_without_38 (by decide) (fun c8 => ?_) (fun c8 => ?_)
        · have h := zif_f h c8
          refine lv_aload_n hx hb dX6_without_44 rfl (lv_at hl 0 rfl) ?_
          refine z_get (C := RX6) (T := TX6) (N := 12) X inX6 hP 0 (by decide) (zcC_0 _ _ _ _ _ _) rfl 3 (by decide) rfl (by decide +kernel) rfl dX6_without_45 ?_
          obtain ⟨u9, s9, e9, h⟩ := zb_some h
          refine z_callv hS (z_runV (As := []) (rest := []) X hG hA hE hP hS 19 (kX0_lookAtSheets (l := l) (D := D) (a := a) (cI := cI) (cJ := cJ) (cC := cC) (adK := adK) (adV := adV) e9 _) (cwV 0 hts gX6_without_X0_lookAtSheets rfl rfl rfl (by decide +kernel) ⟨Nat.le_of_ble_eq_true rfl, Nat.le_of_ble_eq_true rfl⟩) (by decide) (zcC_19 _ _ _ _ _ _) rfl rfl rfl hl.1 rfl (Nat.le_of_ble_eq_true rfl) dX6_without_48) (fun H locs hP hS => ?_)
          refine lv_aload_n hx hb dX6_without_51 rfl (lv_at hl 0 rfl) ?_
          refine z_get (C := RX6) (T := TX6) (N := 12) X inX6 hP 0 (by decide) (zcC_0 _ _ _ _ _ _) rfl 3 (by decide) rfl (by decide +kernel) rfl dX6_without_52 ?_
          refine lv_iload_n hx hb dX6_without_55 rfl (lv_at hl 1 rfl) ?_
          obtain ⟨u10, s10, e10, h⟩ := zb_some h
          refine z_callv hS (z_runV (As := [.int x1]) (rest := []) X hG hA hE hP hS 19 (kX0_pileStack (l := l) (D := D) (a := a) (cI := cI) (cJ := cJ) (cC := cC) (adK := adK) (adV := adV) e10 _) (cwV 1 hts gX6_without_X0_pileStack rfl rfl rfl (by decide +kernel) ⟨Nat.le_of_ble_eq_true rfl, Nat.le_of_ble_eq_true rfl⟩) (by decide) (zcC_19 _ _ _ _ _ _) rfl rfl rfl hl.1 rfl (Nat.le_of_ble_eq_true rfl) dX6_without_56) (fun H locs hP hS => ?_)
          refine lv_aload_n hx hb dX6_without_59 rfl (lv_at hl 0 rfl) ?_
          refine z_get (C := RX6) (T := TX6) (N := 12) X inX6 hP 0 (by decide) (zcC_0 _ _ _ _ _ _) rfl 3 (by decide) rfl (by decide +kernel) rfl dX6_without_60 ?_
          refine lv_aload_n hx hb dX6_without_63 rfl (lv_at hl 0 rfl) ?_
          refine z_get (C := RX6) (T := TX6) (N := 12) X inX6 hP 0 (by decide) (zcC_0 _ _ _ _ _ _) rfl 8 (by decide) rfl (by decide +kernel) rfl dX6_without_64 ?_
          refine lv_iload_n hx hb dX6_without_67 rfl (lv_at hl 2 rfl) ?_
          refine lv_iconst (v := 0) hx hb dX6_without_68 (by decide) ?_
          obtain ⟨u11, s11, e11, h⟩ := zb_some h
          refine z_callv hS (z_runV (As := [.ref (a 37), .int x2, .int (0 : Int32)]) (rest := []) X hG hA hE hP hS 19 (kX0_shadesInto_19_37 (l := l) (D := D) (a := a) (cI := cI) (cJ := cJ) (cC := cC) (adK := adK) (adV := adV) e11 _) (cwV 3 hts gX6_without_X0_shadesInto rfl rfl rfl (by decide +kernel) ⟨Nat.le_of_ble_eq_true rfl, Nat.le_of_ble_eq_true rfl⟩) (by decide) (zcC_19 _ _ _ _ _ _) rfl rfl rfl hl.1 rfl (Nat.le_of_ble_eq_true rfl) dX6_without_69) (fun H locs hP hS => ?_)
          refine lv_iconst (v := -1) hx hb dX6_without_72 (by decide) ?_
          refine lv_istore (lv' := [(4, .int (-1 : Int32)), (0, .ref (a 0)), (1, .int x1), (2, .int x2), (3, .int x3)]) hx hb dX6_without_73 hl (by decide) rfl (fun ls hl => ?_)
          refine lv_iconst (v := 0) hx hb dX6_without_75 (by decide) ?_
          refine lv_istore (lv' := [(5, .int (0 : Int32)), (4, .int (-1 : Int32)), (0, .ref (a 0)), (1, .int x1), (2, .int x2), (3, .int x3)]) hx hb dX6_without_76 hl (by decide) rfl (fun ls hl => ?_)
          refine lv_iconst (v := 0) hx hb dX6_without_78 (by decide) ?_
          refine lv_istore (lv' := [(6, .int (0 : Int32)), (5, .int (0 : Int32)), (4, .int (-1 : Int32)), (0, .ref (a 0)), (1, .int x1), (2, .int x2), (3, .int x3)]) hx hb dX6_without_79 hl (by decide) rfl (fun ls hl => ?_)
          exact w81  zN (x1) (x2) (x3) ((-1 : Int32)) ((0 : Int32)) ((0 : Int32)) (s11) _ _ _ h hP hS (lv_sub hl [3, 4, 5, 6, 2, 1, 0] rfl)
        · have h := zif_t h c8
          refine lv_bipush (v := -3) hx hb dX6_without_41 (by decide) ?_
          exact z_iret X hP hS hr hlocks h dX6_without_43
      · have h := zif_t h c6
        refine lv_iconst (v := -1) hx hb dX6_without_27 (by decide) ?_
        exact z_iret X hP hS hr hlocks h dX6_without_28
abbrev rmX0_isDark : Room := { frames := 3, cells := 0, slots := 0, locals := 71 }
set_option maxHeartbeats 4000000 in
set_option maxRecDepth 100000 in
theorem kX0_isDark {l : Launch} {D : va_G} {a : Nat → Nat} {cI cJ cC : ClassId} {adK adV : Nat → Nat} {x1 : Int32} {s τ : ZS} {r : Int32} (h : fX0_isDark x1 s = some (r, τ)) : zMi (zcC a cI cJ cC) 41 a D [(cI, .int), (cJ, .long)] (zEC adK adV) l yX0_isDark wsX0_isDark rmX0_isDark [.ref (a 19), .int x1] s r τ := by
  refine z_start (cc := cX0_isDark) (maxL := 3) (ret := (some .boolean)) RX0 rfl (by decide) rfl (Nat.le_of_ble_eq_true rfl) ?_
  intro p e st m args below meth c ls H locs X hr hlocks hA hE hP hS hl
  obtain ⟨hx, hb, hml, hown, hts, -⟩ := id X
  have hG := zEC_good adK adV
  have w2 : ∀  (n : Nat) (x1 : Int32) (x2 : Int32) (s : ZS) (H : Heap) (locs : List Loc) (ls : Array Slot), fX0_isDark_2n  n (x1, x2, s) = some (r, τ) → va_P D vwCl (zW (zcC a cI cJ cC) 41 a s) H → va_S (zF 41 a st.heap.size) st.heap H locs → lv_has ls 3 [(0, .ref (a 19)), (1, .int x1), (2, .int x2)] → W p l e rmX0_isDark st m args below meth c H locs 0 0 (MQ below (va_Qi (fun (r' : Int32) (τ' : ZS) => r' = r ∧ τ' = τ) (zPost (zcC a cI cJ cC) 41 a D [(cI, .int), (cJ, .long)]) (zF 41 a st.heap.size)) args st 0 0 (zF 41 a st.heap.size)) (F0 m 2 ls []) := by
    intro  n
    induction n with
    | zero => intro x1 x2 s H locs ls h; exact zloop_0 h
    | succ n ih =>
      intro x1 x2 s H locs ls h hP hS hl
      have h : fX0_isDark_2b  (fun x1 x2 s => fX0_isDark_2n  n (x1, x2, s)) x1 x2 s = some (r, τ) := h
      refine lv_iload_n hx hb dX0_isDark_2 rfl (lv_at hl 2 rfl) ?_
      refine lv_iconst (v := 3) hx hb dX0_isDark_3 (by decide) ?_
      refine lv_icmp_ge (tgt := 25) hx hb dX0_isDark_4 (by decide) (fun c1 => ?_) (fun c1 => ?_)
      · have h := zif_t h c1
        refine lv_iconst (v := 1) hx hb dX0_isDark_25 (by decide) ?_
        exact z_zret X hP hS hr hlocks (by decide) h dX0_isDark_26
      · have h := zif_f h c1
        refine lv_aload_n hx hb dX0_isDark_7 rfl (lv_at hl 0 rfl) ?_
        refine lv_iload_n hx hb dX0_isDark_8 rfl (lv_at hl 1 rfl) ?_
        refine lv_iconst (v := 0) hx hb dX0_isDark_9 (by decide) ?_
        refine lv_iload_n hx hb dX0_isDark_10 rfl (lv_at hl 2 rfl) ?_
        obtain ⟨u2, s2, e2, h⟩ := zb_some h
        refine z_calli hS (z_runV (As := [.int x1, .int (0 : Int32), .int x2]) (rest := []) X hG hA hE hP hS 19 (kX0_shadeOf (l := l) (D := D) (a := a) (cI := cI) (cJ := cJ) (cC := cC) (adK := adK) (adV := adV) e2 _) (cwV 3 hts gX0_isDark_X0_shadeOf rfl rfl rfl (by decide +kernel) ⟨Nat.le_of_ble_eq_true rfl, Nat.le_of_ble_eq_true rfl⟩) (by decide) (zcC_19 _ _ _ _ _ _) rfl rfl rfl hl.1 rfl (Nat.le_of_ble_eq_true rfl) dX0_isDark_11) (fun H locs hP hS => ?_)
        refine lv_if_eq (tgt := 19) hx hb dX0_isDark_14 (by decide) (fun c3 => ?_) (fun c3 => ?_)
        · have h := zif_t h c3
          refine lv_iinc (v := (x2 + (1 : Int32))) (lv' := [(2, .int (x2 + (1 : Int32))), (0, .ref (a 19)), (1, .int x1)]) hx hb dX0_isDark_19 hl (k := 2) rfl rfl (by decide) rfl (fun ls hl => ?_)
          refine lv_goto (tgt := 2) hx hb dX0_isDark_22 (by decide) ?_
          exact ih (x1) ((x2 + (1 : Int32))) (s2) _ _ _ h hP hS (lv_sub hl [1, 2, 0] rfl)
        · have h := zif_f h c3
          refine lv_iconst (v := 0) hx hb dX0_isDark_17 (by decide) ?_
          exact z_zret X hP hS hr hlocks (by decide) h dX0_isDark_18
  have hl : lv_has ls 3 [(0, .ref (a 19)), (1, .int x1)] := hl
  refine lv_iconst (v := 0) hx hb dX0_isDark_0 (by decide) ?_
  refine lv_istore_n (lv' := [(2, .int (0 : Int32)), (0, .ref (a 19)), (1, .int x1)]) hx hb dX0_isDark_1 rfl hl (by decide) rfl (fun ls hl => ?_)
  exact w2  zN (x1) ((0 : Int32)) (s) _ _ _ h hP hS (lv_sub hl [1, 2, 0] rfl)
abbrev rmX6_dark : Room := { frames := 5, cells := 0, slots := 0, locals := 114 }
set_option maxHeartbeats 4000000 in
set_option maxRecDepth 100000 in
theorem kX6_dark {l : Launch} {D : va_G} {a : Nat → Nat} {cI cJ cC : ClassId} {adK adV : Nat → Nat} {x1 : Int32} {x2 : Int32} {x3 : Int32} {s τ : ZS} {r : Int32} (h : fX6_dark x1 x2 x3 s = some (r, τ)) : zMi (zcC a cI cJ cC) 41 a D [(cI, .int), (cJ, .long)] (zEC adK adV) l yX6_dark wsX6_dark rmX6_dark [.ref (a 0), .int x1, .int x2, .int x3] s r τ := by
  refine z_start (cc := cX6_dark) (maxL := 6) (ret := (some .int)) RX6 rfl (by decide) rfl (Nat.le_of_ble_eq_true rfl) ?_
  intro p e st m args below meth c ls H locs X hr hlocks hA hE hP hS hl
  obtain ⟨hx, hb, hml, hown, hts, -⟩ := id X
  have hG := zEC_good adK adV
  have inX3 : ∀ w ∈ u_ws RX3 TX3 10, w ∈ wsX6_dark := by decide +kernel
  have inX6 : ∀ w ∈ u_ws RX6 TX6 12, w ∈ wsX6_dark := by decide +kernel
  have w64 : ∀  (n : Nat) (x2 : Int32) (x3 : Int32) (x4 : Int32) (x5 : Int32) (s : ZS) (H : Heap) (locs : List Loc) (ls : Array Slot), fX6_dark_64n  n (x2, x3, x4, x5, s) = some (r, τ) → va_P D vwCl (zW (zcC a cI cJ cC) 41 a s) H → va_S (zF 41 a st.heap.size) st.heap H locs → lv_has ls 6 [(0, .ref (a 0)), (2, .int x2), (3, .int x3), (4, .int x4), (5, .int x5)] → W p l e rmX6_dark st m args below meth c H locs 0 0 (MQ below (va_Qi (fun (r' : Int32) (τ' : ZS) => r' = r ∧ τ' = τ) (zPost (zcC a cI cJ cC) 41 a D [(cI, .int), (cJ, .long)]) (zF 41 a st.heap.size)) args st 0 0 (zF 41 a st.heap.size)) (F0 m 64 ls []) := by
    intro  n
    induction n with
    | zero => intro x2 x3 x4 x5 s H locs ls h; exact zloop_0 h
    | succ n ih =>
      intro x2 x3 x4 x5 s H locs ls h hP hS hl
      have h : fX6_dark_64b  (fun x2 x3 x4 x5 s => fX6_dark_64n  n (x2, x3, x4, x5, s)) x2 x3 x4 x5 s = some (r, τ) := h
      refine lv_iload hx hb dX6_dark_64 (lv_at hl 4 rfl) ?_
      refine lv_iload hx hb dX6_dark_66 (lv_at hl 3 rfl) ?_
      refine lv_icmp_gt (tgt := 99) hx hb dX6_dark_68 (by decide) (fun c1 => ?_) (fun c1 => ?_)
      · have h := zif_t h c1
        refine lv_bipush (v := -5) hx hb dX6_dark_99 (by decide) ?_
        exact z_iret X hP hS hr hlocks h dX6_dark_101
      · have h := zif_f h c1
        refine lv_aload_n hx hb dX6_dark_71 rfl (lv_at hl 0 rfl) ?_
        refine z_get (C := RX6) (T := TX6) (N := 12) X inX6 hP 0 (by decide) (zcC_0 _ _ _ _ _ _) rfl 3 (by decide) rfl (by decide +kernel) rfl dX6_dark_72 ?_
        refine lv_iload_n hx hb dX6_dark_75 rfl (lv_at hl 1 rfl) ?_
        obtain ⟨u2, s2, e2, h⟩ := zb_some h
        refine z_calli hS (z_runV (As := [.int x2]) (rest := []) X hG hA hE hP hS 19 (kX0_isDark (l := l) (D := D) (a := a) (cI := cI) (cJ := cJ) (cC := cC) (adK := adK) (adV := adV) e2 _) (cwV 1 hts gX6_dark_X0_isDark rfl rfl rfl (by decide +kernel) ⟨Nat.le_of_ble_eq_true rfl, Nat.le_of_ble_eq_true rfl⟩) (by decide) (zcC_19 _ _ _ _ _ _) rfl rfl rfl hl.1 rfl (Nat.le_of_ble_eq_true rfl) dX6_dark_76) (fun H locs hP hS => ?_)
        refine lv_if_eq (tgt := 85) hx hb dX6_dark_79 (by decide) (fun c3 => ?_) (fun c3 => ?_)
        · have h := zif_t h c3
          refine lv_aload_n hx hb dX6_dark_85 rfl (lv_at hl 0 rfl) ?_
          refine z_get (C := RX6) (T := TX6) (N := 12) X inX6 hP 0 (by decide) (zcC_0 _ _ _ _ _ _) rfl 3 (by decide) rfl (by decide +kernel) rfl dX6_dark_86 ?_
          refine lv_iload_n hx hb dX6_dark_89 rfl (lv_at hl 2 rfl) ?_
          obtain ⟨u4, s4, e4, h⟩ := zb_some h
          refine z_callv hS (z_runV (As := [.int x3]) (rest := []) X hG hA hE hP hS 19 (kX0_add (l := l) (D := D) (a := a) (cI := cI) (cJ := cJ) (cC := cC) (adK := adK) (adV := adV) e4 _) (cwV 1 hts gX6_dark_X0_add rfl rfl rfl (by decide +kernel) ⟨Nat.le_of_ble_eq_true rfl, Nat.le_of_ble_eq_true rfl⟩) (by decide) (zcC_19 _ _ _ _ _ _) rfl rfl rfl hl.1 rfl (Nat.le_of_ble_eq_true rfl) dX6_dark_90) (fun H locs hP hS => ?_)
          refine lv_iinc (v := (x5 + (1 : Int32))) (lv' := [(5, .int (x5 + (1 : Int32))), (0, .ref (a 0)), (2, .int x2), (3, .int x3), (4, .int x4)]) hx hb dX6_dark_93 hl (k := 4) rfl rfl (by decide) rfl (fun ls hl => ?_)
          refine lv_goto (tgt := 64) hx hb dX6_dark_96 (by decide) ?_
          exact ih (x2) (x3) (x4) ((x5 + (1 : Int32))) (s4) _ _ _ h hP hS (lv_sub hl [1, 2, 3, 4, 0] rfl)
        · have h := zif_f h c3
          refine lv_iload hx hb dX6_dark_82 (lv_at hl 4 rfl) ?_
          exact z_iret X hP hS hr hlocks h dX6_dark_84
  have hl : lv_has ls 6 [(0, .ref (a 0)), (1, .int x1), (2, .int x2), (3, .int x3)] := hl
  refine lv_aload_n hx hb dX6_dark_0 rfl (lv_at hl 0 rfl) ?_
  refine z_get (C := RX6) (T := TX6) (N := 12) X inX6 hP 0 (by decide) (zcC_0 _ _ _ _ _ _) rfl 0 (by decide) rfl (by decide +kernel) rfl dX6_dark_1 ?_
  refine lv_iload_n hx hb dX6_dark_4 rfl (lv_at hl 1 rfl) ?_
  obtain ⟨u1, s1, e1, h⟩ := zb_some h
  refine z_calli hS (z_runV (As := [.int x1]) (rest := []) X hG hA hE hP hS 1 (kX3_hasStack (l := l) (D := D) (a := a) (cI := cI) (cJ := cJ) (cC := cC) (adK := adK) (adV := adV) e1 _) (cwV 1 hts gX6_dark_X3_hasStack rfl rfl rfl (by decide +kernel) ⟨Nat.le_of_ble_eq_true rfl, Nat.le_of_ble_eq_true rfl⟩) (by decide) (zcC_1 _ _ _ _ _ _) rfl rfl rfl hl.1 rfl (Nat.le_of_ble_eq_true rfl) dX6_dark_5) (fun H locs hP hS => ?_)
  refine lv_if_eq (tgt := 30) hx hb dX6_dark_8 (by decide) (fun c2 => ?_) (fun c2 => ?_)
  · have h := zif_t h c2
    refine lv_iconst (v := -1) hx hb dX6_dark_30 (by decide) ?_
    exact z_iret X hP hS hr hlocks h dX6_dark_31
  · have h := zif_f h c2
    refine lv_iload_n hx hb dX6_dark_11 rfl (lv_at hl 2 rfl) ?_
    refine lv_iconst (v := 3) hx hb dX6_dark_12 (by decide) ?_
    obtain ⟨u3, s3, e3, h⟩ := zb_some h
    refine z_calli hS (z_runS (As := [.int x2, .int (3 : Int32)]) (rest := []) X hG hA hE hP hS (kX6_within (l := l) (D := D) (a := a) (cI := cI) (cJ := cJ) (cC := cC) (adK := adK) (adV := adV) e3 _) (va_cwS 2 hts gX6_dark_X6_within rfl rfl rfl (by decide +kernel) ⟨Nat.le_of_ble_eq_true rfl, Nat.le_of_ble_eq_true rfl⟩) rfl hl.1 rfl (Nat.le_of_ble_eq_true rfl) dX6_dark_13) (fun H locs hP hS => ?_)
    refine lv_if_eq (tgt := 30) hx hb dX6_dark_16 (by decide) (fun c4 => ?_) (fun c4 => ?_)
    · have h := zif_t h c4
      refine lv_iconst (v := -1) hx hb dX6_dark_30 (by decide) ?_
      exact z_iret X hP hS hr hlocks h dX6_dark_31
    · have h := zif_f h c4
      refine lv_aload_n hx hb dX6_dark_19 rfl (lv_at hl 0 rfl) ?_
      refine z_get (C := RX6) (T := TX6) (N := 12) X inX6 hP 0 (by decide) (zcC_0 _ _ _ _ _ _) rfl 0 (by decide) rfl (by decide +kernel) rfl dX6_dark_20 ?_
      refine lv_iload_n hx hb dX6_dark_23 rfl (lv_at hl 3 rfl) ?_
      obtain ⟨u5, s5, e5, h⟩ := zb_some h
      refine z_calli hS (z_runV (As := [.int x3]) (rest := []) X hG hA hE hP hS 1 (kX3_hasSheet (l := l) (D := D) (a := a) (cI := cI) (cJ := cJ) (cC := cC) (adK := adK) (adV := adV) e5 _) (cwV 1 hts gX6_dark_X3_hasSheet rfl rfl rfl (by decide +kernel) ⟨Nat.le_of_ble_eq_true rfl, Nat.le_of_ble_eq_true rfl⟩) (by decide) (zcC_1 _ _ _ _ _ _) rfl rfl rfl hl.1 rfl (Nat.le_of_ble_eq_true rfl) dX6_dark_24) (fun H locs hP hS => ?_)
      refine lv_if_ne (tgt := 32) hx hb dX6_dark_27 (by decide) (fun c6 => ?_) (fun c6 => ?_)
      · have h := zif_f h c6
        refine lv_aload_n hx hb dX6_dark_32 rfl (lv_at hl 0 rfl) ?_
        refine z_get (C := RX6) (T := TX6) (N := 12) X inX6 hP 0 (by decide) (zcC_0 _ _ _ _ _ _) rfl 3 (by decide) rfl (by decide +kernel) rfl dX6_dark_33 ?_
        obtain ⟨u7, s7, e7, h⟩ := zb_some h
        refine z_callv hS (z_runV (As := []) (rest := []) X hG hA hE hP hS 19 (kX0_lookAtSheets (l := l) (D := D) (a := a) (cI := cI) (cJ := cJ) (cC := cC) (adK := adK) (adV := adV) e7 _) (cwV 0 hts gX6_dark_X0_lookAtSheets rfl rfl rfl (by decide +kernel) ⟨Nat.le_of_ble_eq_true rfl, Nat.le_of_ble_eq_true rfl⟩) (by decide) (zcC_19 _ _ _ _ _ _) rfl rfl rfl hl.1 rfl (Nat.le_of_ble_eq_true rfl) dX6_dark_36) (fun H locs hP hS => ?_)
        refine lv_aload_n hx hb dX6_dark_39 rfl (lv_at hl 0 rfl) ?_
        refine z_get (C := RX6) (T := TX6) (N := 12) X inX6 hP 0 (by decide) (zcC_0 _ _ _ _ _ _) rfl 3 (by decide) rfl (by decide +kernel) rfl dX6_dark_40 ?_
        refine lv_iload_n hx hb dX6_dark_43 rfl (lv_at hl 1 rfl) ?_
        obtain ⟨u8, s8, e8, h⟩ := zb_some h
        refine z_callv hS (z_runV (As := [.int x1]) (rest := []) X hG hA hE hP hS 19 (kX0_pileStack (l := l) (D := D) (a := a) (cI := cI) (cJ := cJ) (cC := cC) (adK := adK) (adV := adV) e8 _) (cwV 1 hts gX6_dark_X0_pileStack rfl rfl rfl (by decide +kernel) ⟨Nat.le_of_ble_eq_true rfl, Nat.le_of_ble_eq_true rfl⟩) (by decide) (zcC_19 _ _ _ _ _ _) rfl rfl rfl hl.1 rfl (Nat.le_of_ble_eq_true rfl) dX6_dark_44) (fun H locs hP hS => ?_)
        refine lv_bipush (v := 8) hx hb dX6_dark_47 (by decide) ?_
        refine lv_aload_n hx hb dX6_dark_49 rfl (lv_at hl 0 rfl) ?_
        refine z_get (C := RX6) (T := TX6) (N := 12) X inX6 hP 0 (by decide) (zcC_0 _ _ _ _ _ _) rfl 0 (by decide) rfl (by decide +kernel) rfl dX6_dark_50 ?_
        refine z_get (C := RX3) (T := TX3) (N := 10) X inX3 hP 1 (by decide) (zcC_1 _ _ _ _ _ _) rfl 5 (by decide) rfl (by decide +kernel) rfl dX6_dark_53 ?_
        refine lv_iload_n hx hb dX6_dark_56 rfl (lv_at hl 1 rfl) ?_
        obtain ⟨g9, h⟩ := zg_some h
        refine z_iald X hP 5 0 (by decide) (zcC_5 _ _ _ _ _ _) rfl g9 dX6_dark_57 ?_
        refine lv_isub hx hb dX6_dark_58 ?_
        refine lv_istore (lv' := [(4, .int ((8 : Int32) - ((s8).1 5 (x1).toNatClampNeg))), (0, .ref (a 0)), (1, .int x1), (2, .int x2), (3, .int x3)]) hx hb dX6_dark_59 hl (by decide) rfl (fun ls hl => ?_)
        refine lv_iconst (v := 0) hx hb dX6_dark_61 (by decide) ?_
        refine lv_istore (lv' := [(5, .int (0 : Int32)), (4, .int ((8 : Int32) - ((s8).1 5 (x1).toNatClampNeg))), (0, .ref (a 0)), (1, .int x1), (2, .int x2), (3, .int x3)]) hx hb dX6_dark_62 hl (by decide) rfl (fun ls hl => ?_)
        exact w64  zN (x2) (x3) (((8 : Int32) - ((s8).1 5 (x1).toNatClampNeg))) ((0 : Int32)) (s8) _ _ _ h hP hS (lv_sub hl [2, 4, 5, 1, 0] rfl)
      · have h := zif_t h c6
        refine lv_iconst (v := -1) hx hb dX6_dark_30 (by decide) ?_
        exact z_iret X hP hS hr hlocks h dX6_dark_31
abbrev rmX6_fades : Room := { frames := 5, cells := 0, slots := 0, locals := 114 }
set_option maxHeartbeats 4000000 in
set_option maxRecDepth 100000 in
theorem kX6_fades {l : Launch} {D : va_G} {a : Nat → Nat} {cI cJ cC : ClassId} {adK adV : Nat → Nat} {x1 : Int32} {x2 : Int32} {s τ : ZS} {r : Int32} (h : fX6_fades x1 x2 s = some (r, τ)) : zMi (zcC a cI cJ cC) 41 a D [(cI, .int), (cJ, .long)] (zEC adK adV) l yX6_fades wsX6_fades rmX6_fades [.ref (a 0), .int x1, .int x2] s r τ := by
  refine z_start (cc := cX6_fades) (maxL := 4) (ret := (some .int)) RX6 rfl (by decide) rfl (Nat.le_of_ble_eq_true rfl) ?_
  intro p e st m args below meth c ls H locs X hr hlocks hA hE hP hS hl
  obtain ⟨hx, hb, hml, hown, hts, -⟩ := id X
  have hG := zEC_good adK adV
  have inX6 : ∀ w ∈ u_ws RX6 TX6 12, w ∈ wsX6_fades := by decide +kernel
  have w51 : ∀  (n : Nat) (x2 : Int32) (x3 : Int32) (s : ZS) (H : Heap) (locs : List Loc) (ls : Array Slot), fX6_fades_51n  n (x2, x3, s) = some (r, τ) → va_P D vwCl (zW (zcC a cI cJ cC) 41 a s) H → va_S (zF 41 a st.heap.size) st.heap H locs → lv_has ls 4 [(0, .ref (a 0)), (2, .int x2), (3, .int x3)] → W p l e rmX6_fades st m args below meth c H locs 0 0 (MQ below (va_Qi (fun (r' : Int32) (τ' : ZS) => r' = r ∧ τ' = τ) (zPost (zcC a cI cJ cC) 41 a D [(cI, .int), (cJ, .long)]) (zF 41 a st.heap.size)) args st 0 0 (zF 41 a st.heap.size)) (F0 m 51 ls []) := by
    intro  n
    induction n with
    | zero => intro x2 x3 s H locs ls h; exact zloop_0 h
    | succ n ih =>
      intro x2 x3 s H locs ls h hP hS hl
      have h : fX6_fades_51b  (fun x2 x3 s => fX6_fades_51n  n (x2, x3, s)) x2 x3 s = some (r, τ) := h
      refine lv_iload_n hx hb dX6_fades_51 rfl (lv_at hl 2 rfl) ?_
      refine lv_bipush (v := 10) hx hb dX6_fades_52 (by decide) ?_
      refine lv_icmp_gt (tgt := 92) hx hb dX6_fades_54 (by decide) (fun c1 => ?_) (fun c1 => ?_)
      · have h := zif_t h c1
        refine lv_bipush (v := -5) hx hb dX6_fades_92 (by decide) ?_
        exact z_iret X hP hS hr hlocks h dX6_fades_94
      · have h := zif_f h c1
        refine lv_aload_n hx hb dX6_fades_57 rfl (lv_at hl 0 rfl) ?_
        refine z_get (C := RX6) (T := TX6) (N := 12) X inX6 hP 0 (by decide) (zcC_0 _ _ _ _ _ _) rfl 3 (by decide) rfl (by decide +kernel) rfl dX6_fades_58 ?_
        refine lv_aload_n hx hb dX6_fades_61 rfl (lv_at hl 0 rfl) ?_
        refine z_get (C := RX6) (T := TX6) (N := 12) X inX6 hP 0 (by decide) (zcC_0 _ _ _ _ _ _) rfl 9 (by decide) rfl (by decide +kernel) rfl dX6_fades_62 ?_
        refine lv_iload_n hx hb dX6_fades_65 rfl (lv_at hl 1 rfl) ?_
        refine lv_iload_n hx hb dX6_fades_66 rfl (lv_at hl 2 rfl) ?_
        obtain ⟨u2, s2, e2, h⟩ := zb_some h
        refine z_callv hS (z_runV (As := [.ref (a 38), .int x2, .int x3]) (rest := []) X hG hA hE hP hS 19 (kX0_shadesInto_19_38 (l := l) (D := D) (a := a) (cI := cI) (cJ := cJ) (cC := cC) (adK := adK) (adV := adV) e2 _) (cwV 3 hts gX6_fades_X0_shadesInto rfl rfl rfl (by decide +kernel) ⟨Nat.le_of_ble_eq_true rfl, Nat.le_of_ble_eq_true rfl⟩) (by decide) (zcC_19 _ _ _ _ _ _) rfl rfl rfl hl.1 rfl (Nat.le_of_ble_eq_true rfl) dX6_fades_67) (fun H locs hP hS => ?_)
        refine lv_aload_n hx hb dX6_fades_70 rfl (lv_at hl 0 rfl) ?_
        refine z_get (C := RX6) (T := TX6) (N := 12) X inX6 hP 0 (by decide) (zcC_0 _ _ _ _ _ _) rfl 8 (by decide) rfl (by decide +kernel) rfl dX6_fades_71 ?_
        refine lv_aload_n hx hb dX6_fades_74 rfl (lv_at hl 0 rfl) ?_
        refine z_get (C := RX6) (T := TX6) (N := 12) X inX6 hP 0 (by decide) (zcC_0 _ _ _ _ _ _) rfl 9 (by decide) rfl (by decide +kernel) rfl dX6_fades_75 ?_
        obtain ⟨u3, s3, e3, h⟩ := zb_some h
        refine z_calli hS (z_runS (As := [.ref (a 37), .ref (a 38)]) (rest := []) X hG hA hE hP hS (kX6_differing_37_38 (l := l) (D := D) (a := a) (cI := cI) (cJ := cJ) (cC := cC) (adK := adK) (adV := adV) e3 _) (va_cwS 2 hts gX6_fades_X6_differing rfl rfl rfl (by decide +kernel) ⟨Nat.le_of_ble_eq_true rfl, Nat.le_of_ble_eq_true rfl⟩) rfl hl.1 rfl (Nat.le_of_ble_eq_true rfl) dX6_fades_78) (fun H locs hP hS => ?_)
        refine lv_if_le (tgt := 86) hx hb dX6_fades_81 (by decide) (fun c4 => ?_) (fun c4 => ?_)
        · have h := zif_t h c4
          refine lv_iinc (v := (x3 + (1 : Int32))) (lv' := [(3, .int (x3 + (1 : Int32))), (0, .ref (a 0)), (2, .int x2)]) hx hb dX6_fades_86 hl (k := 2) rfl rfl (by decide) rfl (fun ls hl => ?_)
          refine lv_goto (tgt := 51) hx hb dX6_fades_89 (by decide) ?_
          exact ih (x2) ((x3 + (1 : Int32))) (s3) _ _ _ h hP hS (lv_sub hl [1, 2, 0] rfl)
        · have h := zif_f h c4
          refine lv_iload_n hx hb dX6_fades_84 rfl (lv_at hl 2 rfl) ?_
          exact z_iret X hP hS hr hlocks h dX6_fades_85
  have hl : lv_has ls 4 [(0, .ref (a 0)), (1, .int x1), (2, .int x2)] := hl
  refine lv_aload_n hx hb dX6_fades_0 rfl (lv_at hl 0 rfl) ?_
  refine z_get (C := RX6) (T := TX6) (N := 12) X inX6 hP 0 (by decide) (zcC_0 _ _ _ _ _ _) rfl 0 (by decide) rfl (by decide +kernel) rfl dX6_fades_1 ?_
  refine lv_iload_n hx hb dX6_fades_4 rfl (lv_at hl 1 rfl) ?_
  obtain ⟨u1, s1, e1, h⟩ := zb_some h
  refine z_calli hS (z_runV (As := [.int x1]) (rest := []) X hG hA hE hP hS 1 (kX3_hasStack (l := l) (D := D) (a := a) (cI := cI) (cJ := cJ) (cC := cC) (adK := adK) (adV := adV) e1 _) (cwV 1 hts gX6_fades_X3_hasStack rfl rfl rfl (by decide +kernel) ⟨Nat.le_of_ble_eq_true rfl, Nat.le_of_ble_eq_true rfl⟩) (by decide) (zcC_1 _ _ _ _ _ _) rfl rfl rfl hl.1 rfl (Nat.le_of_ble_eq_true rfl) dX6_fades_5) (fun H locs hP hS => ?_)
  refine lv_if_eq (tgt := 19) hx hb dX6_fades_8 (by decide) (fun c2 => ?_) (fun c2 => ?_)
  · have h := zif_t h c2
    refine lv_iconst (v := -1) hx hb dX6_fades_19 (by decide) ?_
    exact z_iret X hP hS hr hlocks h dX6_fades_20
  · have h := zif_f h c2
    refine lv_iload_n hx hb dX6_fades_11 rfl (lv_at hl 2 rfl) ?_
    refine lv_iconst (v := 3) hx hb dX6_fades_12 (by decide) ?_
    obtain ⟨u3, s3, e3, h⟩ := zb_some h
    refine z_calli hS (z_runS (As := [.int x2, .int (3 : Int32)]) (rest := []) X hG hA hE hP hS (kX6_within (l := l) (D := D) (a := a) (cI := cI) (cJ := cJ) (cC := cC) (adK := adK) (adV := adV) e3 _) (va_cwS 2 hts gX6_fades_X6_within rfl rfl rfl (by decide +kernel) ⟨Nat.le_of_ble_eq_true rfl, Nat.le_of_ble_eq_true rfl⟩) rfl hl.1 rfl (Nat.le_of_ble_eq_true rfl) dX6_fades_13) (fun H locs hP hS => ?_)
    refine lv_if_ne (tgt := 21) hx hb dX6_fades_16 (by decide) (fun c4 => ?_) (fun c4 => ?_)
    · have h := zif_f h c4
      refine lv_aload_n hx hb dX6_fades_21 rfl (lv_at hl 0 rfl) ?_
      refine z_get (C := RX6) (T := TX6) (N := 12) X inX6 hP 0 (by decide) (zcC_0 _ _ _ _ _ _) rfl 3 (by decide) rfl (by decide +kernel) rfl dX6_fades_22 ?_
      obtain ⟨u5, s5, e5, h⟩ := zb_some h
      refine z_callv hS (z_runV (As := []) (rest := []) X hG hA hE hP hS 19 (kX0_lookAtSheets (l := l) (D := D) (a := a) (cI := cI) (cJ := cJ) (cC := cC) (adK := adK) (adV := adV) e5 _) (cwV 0 hts gX6_fades_X0_lookAtSheets rfl rfl rfl (by decide +kernel) ⟨Nat.le_of_ble_eq_true rfl, Nat.le_of_ble_eq_true rfl⟩) (by decide) (zcC_19 _ _ _ _ _ _) rfl rfl rfl hl.1 rfl (Nat.le_of_ble_eq_true rfl) dX6_fades_25) (fun H locs hP hS => ?_)
      refine lv_aload_n hx hb dX6_fades_28 rfl (lv_at hl 0 rfl) ?_
      refine z_get (C := RX6) (T := TX6) (N := 12) X inX6 hP 0 (by decide) (zcC_0 _ _ _ _ _ _) rfl 3 (by decide) rfl (by decide +kernel) rfl dX6_fades_29 ?_
      refine lv_iload_n hx hb dX6_fades_32 rfl (lv_at hl 1 rfl) ?_
      obtain ⟨u6, s6, e6, h⟩ := zb_some h
      refine z_callv hS (z_runV (As := [.int x1]) (rest := []) X hG hA hE hP hS 19 (kX0_pileStack (l := l) (D := D) (a := a) (cI := cI) (cJ := cJ) (cC := cC) (adK := adK) (adV := adV) e6 _) (cwV 1 hts gX6_fades_X0_pileStack rfl rfl rfl (by decide +kernel) ⟨Nat.le_of_ble_eq_true rfl, Nat.le_of_ble_eq_true rfl⟩) (by decide) (zcC_19 _ _ _ _ _ _) rfl rfl rfl hl.1 rfl (Nat.le_of_ble_eq_true rfl) dX6_fades_33) (fun H locs hP hS => ?_)
      refine lv_aload_n hx hb dX6_fades_36 rfl (lv_at hl 0 rfl) ?_
      refine z_get (C := RX6) (T := TX6) (N := 12) X inX6 hP 0 (by decide) (zcC_0 _ _ _ _ _ _) rfl 3 (by decide) rfl (by decide +kernel) rfl dX6_fades_37 ?_
      refine lv_aload_n hx hb dX6_fades_40 rfl (lv_at hl 0 rfl) ?_
      refine z_get (C := RX6) (T := TX6) (N := 12) X inX6 hP 0 (by decide) (zcC_0 _ _ _ _ _ _) rfl 8 (by decide) rfl (by decide +kernel) rfl dX6_fades_41 ?_
      refine lv_iload_n hx hb dX6_fades_44 rfl (lv_at hl 2 rfl) ?_
      refine lv_iconst (v := 0) hx hb dX6_fades_45 (by decide) ?_
      obtain ⟨u7, s7, e7, h⟩ := zb_some h
      refine z_callv hS (z_runV (As := [.ref (a 37), .int x2, .int (0 : Int32)]) (rest := []) X hG hA hE hP hS 19 (kX0_shadesInto_19_37 (l := l) (D := D) (a := a) (cI := cI) (cJ := cJ) (cC := cC) (adK := adK) (adV := adV) e7 _) (cwV 3 hts gX6_fades_X0_shadesInto rfl rfl rfl (by decide +kernel) ⟨Nat.le_of_ble_eq_true rfl, Nat.le_of_ble_eq_true rfl⟩) (by decide) (zcC_19 _ _ _ _ _ _) rfl rfl rfl hl.1 rfl (Nat.le_of_ble_eq_true rfl) dX6_fades_46) (fun H locs hP hS => ?_)
      refine lv_iconst (v := 1) hx hb dX6_fades_49 (by decide) ?_
      refine lv_istore_n (lv' := [(3, .int (1 : Int32)), (0, .ref (a 0)), (1, .int x1), (2, .int x2)]) hx hb dX6_fades_50 rfl hl (by decide) rfl (fun ls hl => ?_)
      exact w51  zN (x2) ((1 : Int32)) (s7) _ _ _ h hP hS (lv_sub hl [1, 3, 0] rfl)
    · have h := zif_t h c4
      refine lv_iconst (v := -1) hx hb dX6_fades_19 (by decide) ?_
      exact z_iret X hP hS hr hlocks h dX6_fades_20
abbrev rmX1_isHeld : Room := { frames := 1, cells := 0, slots := 0, locals := 21 }
set_option maxHeartbeats 4000000 in
set_option maxRecDepth 100000 in
theorem kX1_isHeld {l : Launch} {D : va_G} {a : Nat → Nat} {cI cJ cC : ClassId} {adK adV : Nat → Nat} {x1 : Int32} {s τ : ZS} {r : Int32} (h : fX1_isHeld x1 s = some (r, τ)) : zMi (zcC a cI cJ cC) 41 a D [(cI, .int), (cJ, .long)] (zEC adK adV) l yX1_isHeld wsX1_isHeld rmX1_isHeld [.ref (a 34), .int x1] s r τ := by
  refine z_start (cc := cX1_isHeld) (maxL := 2) (ret := (some .boolean)) RX1 rfl (by decide) rfl (Nat.le_of_ble_eq_true rfl) ?_
  intro p e st m args below meth c ls H locs X hr hlocks hA hE hP hS hl
  obtain ⟨hx, hb, hml, hown, hts, -⟩ := id X
  have hG := zEC_good adK adV
  have inX1 : ∀ w ∈ u_ws RX1 TX1 2, w ∈ wsX1_isHeld := by decide +kernel
  have hl : lv_has ls 2 [(0, .ref (a 34)), (1, .int x1)] := hl
  refine lv_iload_n hx hb dX1_isHeld_0 rfl (lv_at hl 1 rfl) ?_
  refine lv_iconst (v := 4) hx hb dX1_isHeld_1 (by decide) ?_
  obtain ⟨u1, s1, e1, h⟩ := zb_some h
  refine z_calli hS (z_runSN (As := [.int x1, .int (4 : Int32)]) (rest := []) X hG hA hE hP hS (kX6_within (l := l) (D := D) (a := a) (cI := cI) (cJ := cJ) (cC := cC) (adK := adK) (adV := adV) e1 _) (va_cnB 2 hts gX1_isHeld_X6_within_n18 rfl rfl rfl (zE_nest hE 1 rfl) (hts (.initialized RX6) (by decide +kernel)) (by decide +kernel) ⟨Nat.le_of_ble_eq_true rfl, Nat.le_of_ble_eq_true rfl⟩) (by decide +kernel) rfl hl.1 rfl (Nat.le_of_ble_eq_true rfl) dX1_isHeld_2) (fun H locs hP hS => ?_)
  refine lv_if_eq (tgt := 21) hx hb dX1_isHeld_5 (by decide) (fun c2 => ?_) (fun c2 => ?_)
  · have h := zif_t h c2
    refine lv_iconst (v := 0) hx hb dX1_isHeld_21 (by decide) ?_
    exact z_zret X hP hS hr hlocks (by decide) h dX1_isHeld_22
  · have h := zif_f h c2
    refine lv_aload_n hx hb dX1_isHeld_8 rfl (lv_at hl 0 rfl) ?_
    refine z_get (C := RX1) (T := TX1) (N := 2) X inX1 hP 34 (by decide) (zcC_34 _ _ _ _ _ _) rfl 1 (by decide) rfl (by decide +kernel) rfl dX1_isHeld_9 ?_
    refine lv_iload_n hx hb dX1_isHeld_12 rfl (lv_at hl 1 rfl) ?_
    obtain ⟨g3, h⟩ := zg_some h
    refine z_iald X hP 36 0 (by decide) (zcC_36 _ _ _ _ _ _) rfl g3 dX1_isHeld_13 ?_
    refine lv_if_lt (tgt := 21) hx hb dX1_isHeld_14 (by decide) (fun c4 => ?_) (fun c4 => ?_)
    · have h := zif_t h c4
      refine lv_iconst (v := 0) hx hb dX1_isHeld_21 (by decide) ?_
      exact z_zret X hP hS hr hlocks (by decide) h dX1_isHeld_22
    · have h := zif_f h c4
      refine lv_iconst (v := 1) hx hb dX1_isHeld_17 (by decide) ?_
      refine lv_goto (tgt := 22) hx hb dX1_isHeld_18 (by decide) ?_
      exact z_zret X hP hS hr hlocks (by decide) h dX1_isHeld_22
abbrev rmX1_hasPlace : Room := { frames := 2, cells := 0, slots := 0, locals := 42 }
set_option maxHeartbeats 4000000 in
set_option maxRecDepth 100000 in
theorem kX1_hasPlace {l : Launch} {D : va_G} {a : Nat → Nat} {cI cJ cC : ClassId} {adK adV : Nat → Nat} {x1 : Int32} {x2 : Int32} {s τ : ZS} {r : Int32} (h : fX1_hasPlace x1 x2 s = some (r, τ)) : zMi (zcC a cI cJ cC) 41 a D [(cI, .int), (cJ, .long)] (zEC adK adV) l yX1_hasPlace wsX1_hasPlace rmX1_hasPlace [.ref (a 34), .int x1, .int x2] s r τ := by
  refine z_start (cc := cX1_hasPlace) (maxL := 3) (ret := (some .boolean)) RX1 rfl (by decide) rfl (Nat.le_of_ble_eq_true rfl) ?_
  intro p e st m args below meth c ls H locs X hr hlocks hA hE hP hS hl
  obtain ⟨hx, hb, hml, hown, hts, -⟩ := id X
  have hG := zEC_good adK adV
  have inX1 : ∀ w ∈ u_ws RX1 TX1 2, w ∈ wsX1_hasPlace := by decide +kernel
  have hl : lv_has ls 3 [(0, .ref (a 34)), (1, .int x1), (2, .int x2)] := hl
  refine lv_aload_n hx hb dX1_hasPlace_0 rfl (lv_at hl 0 rfl) ?_
  refine lv_iload_n hx hb dX1_hasPlace_1 rfl (lv_at hl 1 rfl) ?_
  obtain ⟨u1, s1, e1, h⟩ := zb_some h
  refine z_calli hS (z_runV (As := [.int x1]) (rest := []) X hG hA hE hP hS 34 (kX1_isHeld (l := l) (D := D) (a := a) (cI := cI) (cJ := cJ) (cC := cC) (adK := adK) (adV := adV) e1 _) (cwV 1 hts gX1_hasPlace_X1_isHeld rfl rfl rfl (by decide +kernel) ⟨Nat.le_of_ble_eq_true rfl, Nat.le_of_ble_eq_true rfl⟩) (by decide) (zcC_34 _ _ _ _ _ _) rfl rfl rfl hl.1 rfl (Nat.le_of_ble_eq_true rfl) dX1_hasPlace_2) (fun H locs hP hS => ?_)
  refine lv_if_eq (tgt := 31) hx hb dX1_hasPlace_5 (by decide) (fun c2 => ?_) (fun c2 => ?_)
  · have h := zif_t h c2
    refine lv_iconst (v := 0) hx hb dX1_hasPlace_31 (by decide) ?_
    exact z_zret X hP hS hr hlocks (by decide) h dX1_hasPlace_32
  · have h := zif_f h c2
    refine lv_iload_n hx hb dX1_hasPlace_8 rfl (lv_at hl 2 rfl) ?_
    refine lv_aload_n hx hb dX1_hasPlace_9 rfl (lv_at hl 0 rfl) ?_
    refine z_get (C := RX1) (T := TX1) (N := 2) X inX1 hP 34 (by decide) (zcC_34 _ _ _ _ _ _) rfl 1 (by decide) rfl (by decide +kernel) rfl dX1_hasPlace_10 ?_
    refine lv_iload_n hx hb dX1_hasPlace_13 rfl (lv_at hl 1 rfl) ?_
    obtain ⟨g3, h⟩ := zg_some h
    refine z_iald X hP 36 0 (by decide) (zcC_36 _ _ _ _ _ _) rfl g3 dX1_hasPlace_14 ?_
    obtain ⟨u4, s4, e4, h⟩ := zb_some h
    refine z_calli hS (z_runSN (As := [.int x2, .int ((s1).1 36 (x1).toNatClampNeg)]) (rest := []) X hG hA hE hP hS (kX6_within (l := l) (D := D) (a := a) (cI := cI) (cJ := cJ) (cC := cC) (adK := adK) (adV := adV) e4 _) (va_cnB 2 hts gX1_hasPlace_X6_within_n18 rfl rfl rfl (zE_nest hE 1 rfl) (hts (.initialized RX6) (by decide +kernel)) (by decide +kernel) ⟨Nat.le_of_ble_eq_true rfl, Nat.le_of_ble_eq_true rfl⟩) (by decide +kernel) rfl hl.1 rfl (Nat.le_of_ble_eq_true rfl) dX1_hasPlace_15) (fun H locs hP hS => ?_)
    refine lv_if_eq (tgt := 31) hx hb dX1_hasPlace_18 (by decide) (fun c5 => ?_) (fun c5 => ?_)
    · have h := zif_t h c5
      refine lv_iconst (v := 0) hx hb dX1_hasPlace_31 (by decide) ?_
      exact z_zret X hP hS hr hlocks (by decide) h dX1_hasPlace_32
    · have h := zif_f h c5
      refine lv_iload_n hx hb dX1_hasPlace_21 rfl (lv_at hl 2 rfl) ?_
      refine lv_bipush (v := 18) hx hb dX1_hasPlace_22 (by decide) ?_
      refine lv_icmp_ge (tgt := 31) hx hb dX1_hasPlace_24 (by decide) (fun c6 => ?_) (fun c6 => ?_)
      · have h := zif_t h c6
        refine lv_iconst (v := 0) hx hb dX1_hasPlace_31 (by decide) ?_
        exact z_zret X hP hS hr hlocks (by decide) h dX1_hasPlace_32
      · have h := zif_f h c6
        refine lv_iconst (v := 1) hx hb dX1_hasPlace_27 (by decide) ?_
        refine lv_goto (tgt := 32) hx hb dX1_hasPlace_28 (by decide) ?_
        exact z_zret X hP hS hr hlocks (by decide) h dX1_hasPlace_32
abbrev rmX1_valueAt : Room := { frames := 3, cells := 0, slots := 0, locals := 64 }
set_option maxHeartbeats 4000000 in
set_option maxRecDepth 100000 in
theorem kX1_valueAt {l : Launch} {D : va_G} {a : Nat → Nat} {cI cJ cC : ClassId} {adK adV : Nat → Nat} {x1 : Int32} {x2 : Int32} {s τ : ZS} {r : Int32} (h : fX1_valueAt x1 x2 s = some (r, τ)) : zMi (zcC a cI cJ cC) 41 a D [(cI, .int), (cJ, .long)] (zEC adK adV) l yX1_valueAt wsX1_valueAt rmX1_valueAt [.ref (a 34), .int x1, .int x2] s r τ := by
  refine z_start (cc := cX1_valueAt) (maxL := 3) (ret := (some .int)) RX1 rfl (by decide) rfl (Nat.le_of_ble_eq_true rfl) ?_
  intro p e st m args below meth c ls H locs X hr hlocks hA hE hP hS hl
  obtain ⟨hx, hb, hml, hown, hts, -⟩ := id X
  have hG := zEC_good adK adV
  have inX1 : ∀ w ∈ u_ws RX1 TX1 2, w ∈ wsX1_valueAt := by decide +kernel
  have hl : lv_has ls 3 [(0, .ref (a 34)), (1, .int x1), (2, .int x2)] := hl
  refine lv_aload_n hx hb dX1_valueAt_0 rfl (lv_at hl 0 rfl) ?_
  refine lv_iload_n hx hb dX1_valueAt_1 rfl (lv_at hl 1 rfl) ?_
  refine lv_iload_n hx hb dX1_valueAt_2 rfl (lv_at hl 2 rfl) ?_
  obtain ⟨u1, s1, e1, h⟩ := zb_some h
  refine z_calli hS (z_runV (As := [.int x1, .int x2]) (rest := []) X hG hA hE hP hS 34 (kX1_hasPlace (l := l) (D := D) (a := a) (cI := cI) (cJ := cJ) (cC := cC) (adK := adK) (adV := adV) e1 _) (cwV 2 hts gX1_valueAt_X1_hasPlace rfl rfl rfl (by decide +kernel) ⟨Nat.le_of_ble_eq_true rfl, Nat.le_of_ble_eq_true rfl⟩) (by decide) (zcC_34 _ _ _ _ _ _) rfl rfl rfl hl.1 rfl (Nat.le_of_ble_eq_true rfl) dX1_valueAt_3) (fun H locs hP hS => ?_)
  refine lv_if_eq (tgt := 23) hx hb dX1_valueAt_6 (by decide) (fun c2 => ?_) (fun c2 => ?_)
  · have h := zif_t h c2
    refine lv_iconst (v := 0) hx hb dX1_valueAt_23 (by decide) ?_
    exact z_iret X hP hS hr hlocks h dX1_valueAt_24
  · have h := zif_f h c2
    refine lv_aload_n hx hb dX1_valueAt_9 rfl (lv_at hl 0 rfl) ?_
    refine z_get (C := RX1) (T := TX1) (N := 2) X inX1 hP 34 (by decide) (zcC_34 _ _ _ _ _ _) rfl 0 (by decide) rfl (by decide +kernel) rfl dX1_valueAt_10 ?_
    refine lv_iload_n hx hb dX1_valueAt_13 rfl (lv_at hl 1 rfl) ?_
    refine lv_bipush (v := 18) hx hb dX1_valueAt_14 (by decide) ?_
    refine lv_imul hx hb dX1_valueAt_16 ?_
    refine lv_iload_n hx hb dX1_valueAt_17 rfl (lv_at hl 2 rfl) ?_
    refine lv_iadd hx hb dX1_valueAt_18 ?_
    obtain ⟨g3, h⟩ := zg_some h
    refine z_iald X hP 35 0 (by decide) (zcC_35 _ _ _ _ _ _) rfl g3 dX1_valueAt_19 ?_
    refine lv_goto (tgt := 24) hx hb dX1_valueAt_20 (by decide) ?_
    exact z_iret X hP hS hr hlocks h dX1_valueAt_24
abbrev rmX6_listTellsShades : Room := { frames := 4, cells := 0, slots := 0, locals := 86 }
set_option maxHeartbeats 4000000 in
set_option maxRecDepth 100000 in
theorem kX6_listTellsShades {l : Launch} {D : va_G} {a : Nat → Nat} {cI cJ cC : ClassId} {adK adV : Nat → Nat} {x1 : Int32} {x2 : Int32} {s τ : ZS} {r : Int32} (h : fX6_listTellsShades x1 x2 s = some (r, τ)) : zMi (zcC a cI cJ cC) 41 a D [(cI, .int), (cJ, .long)] (zEC adK adV) l yX6_listTellsShades wsX6_listTellsShades rmX6_listTellsShades [.ref (a 0), .int x1, .int x2] s r τ := by
  refine z_start (cc := cX6_listTellsShades) (maxL := 4) (ret := (some .boolean)) RX6 rfl (by decide) rfl (Nat.le_of_ble_eq_true rfl) ?_
  intro p e st m args below meth c ls H locs X hr hlocks hA hE hP hS hl
  obtain ⟨hx, hb, hml, hown, hts, -⟩ := id X
  have hG := zEC_good adK adV
  have inX6 : ∀ w ∈ u_ws RX6 TX6 12, w ∈ wsX6_listTellsShades := by decide +kernel
  have w2 : ∀  (n : Nat) (x1 : Int32) (x2 : Int32) (x3 : Int32) (s : ZS) (H : Heap) (locs : List Loc) (ls : Array Slot), fX6_listTellsShades_2n  n (x1, x2, x3, s) = some (r, τ) → va_P D vwCl (zW (zcC a cI cJ cC) 41 a s) H → va_S (zF 41 a st.heap.size) st.heap H locs → lv_has ls 4 [(0, .ref (a 0)), (1, .int x1), (2, .int x2), (3, .int x3)] → W p l e rmX6_listTellsShades st m args below meth c H locs 0 0 (MQ below (va_Qi (fun (r' : Int32) (τ' : ZS) => r' = r ∧ τ' = τ) (zPost (zcC a cI cJ cC) 41 a D [(cI, .int), (cJ, .long)]) (zF 41 a st.heap.size)) args st 0 0 (zF 41 a st.heap.size)) (F0 m 2 ls []) := by
    intro  n
    induction n with
    | zero => intro x1 x2 x3 s H locs ls h; exact zloop_0 h
    | succ n ih =>
      intro x1 x2 x3 s H locs ls h hP hS hl
      have h : fX6_listTellsShades_2b  (fun x1 x2 x3 s => fX6_listTellsShades_2n  n (x1, x2, x3, s)) x1 x2 x3 s = some (r, τ) := h
      refine lv_iload_n hx hb dX6_listTellsShades_2 rfl (lv_at hl 3 rfl) ?_
      refine lv_iconst (v := 3) hx hb dX6_listTellsShades_3 (by decide) ?_
      refine lv_icmp_ge (tgt := 37) hx hb dX6_listTellsShades_4 (by decide) (fun c1 => ?_) (fun c1 => ?_)
      · have h := zif_t h c1
        refine lv_iconst (v := 1) hx hb dX6_listTellsShades_37 (by decide) ?_
        exact z_zret X hP hS hr hlocks (by decide) h dX6_listTellsShades_38
      · have h := zif_f h c1
        refine lv_aload_n hx hb dX6_listTellsShades_7 rfl (lv_at hl 0 rfl) ?_
        refine z_get (C := RX6) (T := TX6) (N := 12) X inX6 hP 0 (by decide) (zcC_0 _ _ _ _ _ _) rfl 3 (by decide) rfl (by decide +kernel) rfl dX6_listTellsShades_8 ?_
        refine lv_iload_n hx hb dX6_listTellsShades_11 rfl (lv_at hl 2 rfl) ?_
        refine lv_iconst (v := 0) hx hb dX6_listTellsShades_12 (by decide) ?_
        refine lv_iload_n hx hb dX6_listTellsShades_13 rfl (lv_at hl 3 rfl) ?_
        obtain ⟨u2, s2, e2, h⟩ := zb_some h
        refine z_calli hS (z_runV (As := [.int x2, .int (0 : Int32), .int x3]) (rest := []) X hG hA hE hP hS 19 (kX0_shadeOf (l := l) (D := D) (a := a) (cI := cI) (cJ := cJ) (cC := cC) (adK := adK) (adV := adV) e2 _) (cwV 3 hts gX6_listTellsShades_X0_shadeOf rfl rfl rfl (by decide +kernel) ⟨Nat.le_of_ble_eq_true rfl, Nat.le_of_ble_eq_true rfl⟩) (by decide) (zcC_19 _ _ _ _ _ _) rfl rfl rfl hl.1 rfl (Nat.le_of_ble_eq_true rfl) dX6_listTellsShades_14) (fun H locs hP hS => ?_)
        refine lv_aload_n hx hb dX6_listTellsShades_17 rfl (lv_at hl 0 rfl) ?_
        refine z_get (C := RX6) (T := TX6) (N := 12) X inX6 hP 0 (by decide) (zcC_0 _ _ _ _ _ _) rfl 7 (by decide) rfl (by decide +kernel) rfl dX6_listTellsShades_18 ?_
        refine lv_iload_n hx hb dX6_listTellsShades_21 rfl (lv_at hl 1 rfl) ?_
        refine lv_iload_n hx hb dX6_listTellsShades_22 rfl (lv_at hl 3 rfl) ?_
        obtain ⟨u3, s3, e3, h⟩ := zb_some h
        refine z_calli hS (z_runV (As := [.int x1, .int x3]) (rest := [.int u2]) X hG hA hE hP hS 34 (kX1_valueAt (l := l) (D := D) (a := a) (cI := cI) (cJ := cJ) (cC := cC) (adK := adK) (adV := adV) e3 _) (cwV 2 hts gX6_listTellsShades_X1_valueAt rfl rfl rfl (by decide +kernel) ⟨Nat.le_of_ble_eq_true rfl, Nat.le_of_ble_eq_true rfl⟩) (by decide) (zcC_34 _ _ _ _ _ _) rfl rfl rfl hl.1 rfl (Nat.le_of_ble_eq_true rfl) dX6_listTellsShades_23) (fun H locs hP hS => ?_)
        refine lv_icmp_eq (tgt := 31) hx hb dX6_listTellsShades_26 (by decide) (fun c4 => ?_) (fun c4 => ?_)
        · have h := zif_t h c4
          refine lv_iinc (v := (x3 + (1 : Int32))) (lv' := [(3, .int (x3 + (1 : Int32))), (0, .ref (a 0)), (1, .int x1), (2, .int x2)]) hx hb dX6_listTellsShades_31 hl (k := 3) rfl rfl (by decide) rfl (fun ls hl => ?_)
          refine lv_goto (tgt := 2) hx hb dX6_listTellsShades_34 (by decide) ?_
          exact ih (x1) (x2) ((x3 + (1 : Int32))) (s3) _ _ _ h hP hS (lv_sub hl [1, 2, 3, 0] rfl)
        · have h := zif_f h c4
          refine lv_iconst (v := 0) hx hb dX6_listTellsShades_29 (by decide) ?_
          exact z_zret X hP hS hr hlocks (by decide) h dX6_listTellsShades_30
  have hl : lv_has ls 4 [(0, .ref (a 0)), (1, .int x1), (2, .int x2)] := hl
  refine lv_iconst (v := 0) hx hb dX6_listTellsShades_0 (by decide) ?_
  refine lv_istore_n (lv' := [(3, .int (0 : Int32)), (0, .ref (a 0)), (1, .int x1), (2, .int x2)]) hx hb dX6_listTellsShades_1 rfl hl (by decide) rfl (fun ls hl => ?_)
  exact w2  zN (x1) (x2) ((0 : Int32)) (s) _ _ _ h hP hS (lv_sub hl [1, 2, 3, 0] rfl)
abbrev rmX6_was : Room := { frames := 5, cells := 0, slots := 0, locals := 114 }
set_option maxHeartbeats 4000000 in
set_option maxRecDepth 100000 in
theorem kX6_was {l : Launch} {D : va_G} {a : Nat → Nat} {cI cJ cC : ClassId} {adK adV : Nat → Nat} {x1 : Int32} {x2 : Int32} {x3 : Int32} {x4 : Int32} {x5 : Int32} {s τ : ZS} {r : Int32} (h : fX6_was x1 x2 x3 x4 x5 s = some (r, τ)) : zMi (zcC a cI cJ cC) 41 a D [(cI, .int), (cJ, .long)] (zEC adK adV) l yX6_was wsX6_was rmX6_was [.ref (a 0), .int x1, .int x2, .int x3, .int x4, .int x5] s r τ := by
  refine z_start (cc := cX6_was) (maxL := 11) (ret := (some .int)) RX6 rfl (by decide) rfl (Nat.le_of_ble_eq_true rfl) ?_
  intro p e st m args below meth c ls H locs X hr hlocks hA hE hP hS hl
  obtain ⟨hx, hb, hml, hown, hts, -⟩ := id X
  have hG := zEC_good adK adV
  have inX1 : ∀ w ∈ u_ws RX1 TX1 2, w ∈ wsX6_was := by decide +kernel
  have inX3 : ∀ w ∈ u_ws RX3 TX3 10, w ∈ wsX6_was := by decide +kernel
  have inX6 : ∀ w ∈ u_ws RX6 TX6 12, w ∈ wsX6_was := by decide +kernel
  have w199 : ∀ (k111 : Int32 → Int32 → Int32 → Int32 → Int32 → Int32 → Int32 → Int32 → ZS → Option (Int32 × ZS)) (hk111 : ∀ (x1 : Int32) (x2 : Int32) (x3 : Int32) (x4 : Int32) (x5 : Int32) (x6 : Int32) (x7 : Int32) (x8 : Int32) (s : ZS) (H : Heap) (locs : List Loc) (ls : Array Slot), k111 x1 x2 x3 x4 x5 x6 x7 x8 s = some (r, τ) → va_P D vwCl (zW (zcC a cI cJ cC) 41 a s) H → va_S (zF 41 a st.heap.size) st.heap H locs → lv_has ls 11 [(0, .ref (a 0)), (1, .int x1), (2, .int x2), (3, .int x3), (4, .int x4), (5, .int x5), (6, .int x6), (7, .int x7), (8, .int x8)] → W p l e rmX6_was st m args below meth c H locs 0 0 (MQ below (va_Qi (fun (r' : Int32) (τ' : ZS) => r' = r ∧ τ' = τ) (zPost (zcC a cI cJ cC) 41 a D [(cI, .int), (cJ, .long)]) (zF 41 a st.heap.size)) args st 0 0 (zF 41 a st.heap.size)) (F0 m 111 ls [])) (x1 : Int32) (x2 : Int32) (x3 : Int32) (x4 : Int32) (x5 : Int32) (x6 : Int32) (x7 : Int32) (x8 : Int32) (s : ZS) (H : Heap) (locs : List Loc) (ls : Array Slot), fX6_was_199 k111 x1 x2 x3 x4 x5 x6 x7 x8 s = some (r, τ) → va_P D vwCl (zW (zcC a cI cJ cC) 41 a s) H → va_S (zF 41 a st.heap.size) st.heap H locs → lv_has ls 11 [(0, .ref (a 0)), (1, .int x1), (2, .int x2), (3, .int x3), (4, .int x4), (5, .int x5), (6, .int x6), (7, .int x7), (8, .int x8)] → W p l e rmX6_was st m args below meth c H locs 0 0 (MQ below (va_Qi (fun (r' : Int32) (τ' : ZS) => r' = r ∧ τ' = τ) (zPost (zcC a cI cJ cC) 41 a D [(cI, .int), (cJ, .long)]) (zF 41 a st.heap.size)) args st 0 0 (zF 41 a st.heap.size)) (F0 m 199 ls []) := by
    intro k111 hk111 x1 x2 x3 x4 x5 x6 x7 x8 s H locs ls h hP hS hl
    refine lv_iinc (v := (x8 + (1 : Int32))) (lv' := [(8, .int (x8 + (1 : Int32))), (0, .ref (a 0)), (1, .int x1), (2, .int x2), (3, .int x3), (4, .int x4), (5, .int x5), (6, .int x6), (7, .int x7)]) hx hb dX6_was_199 hl (k := 8) rfl rfl (by decide) rfl (fun ls hl => ?_)
    refine lv_goto (tgt := 111) hx hb dX6_was_202 (by decide) ?_
    exact hk111 (x1) (x2) (x3) (x4) (x5) (x6) (x7) ((x8 + (1 : Int32))) (s) _ _ _ h hP hS (lv_sub hl [1, 2, 3, 4, 5, 6, 7, 8, 0] rfl)
  have w158 : ∀ (k111 : Int32 → Int32 → Int32 → Int32 → Int32 → Int32 → Int32 → Int32 → ZS → Option (Int32 × ZS)) (hk111 : ∀ (x1 : Int32) (x2 : Int32) (x3 : Int32) (x4 : Int32) (x5 : Int32) (x6 : Int32) (x7 : Int32) (x8 : Int32) (s : ZS) (H : Heap) (locs : List Loc) (ls : Array Slot), k111 x1 x2 x3 x4 x5 x6 x7 x8 s = some (r, τ) → va_P D vwCl (zW (zcC a cI cJ cC) 41 a s) H → va_S (zF 41 a st.heap.size) st.heap H locs → lv_has ls 11 [(0, .ref (a 0)), (1, .int x1), (2, .int x2), (3, .int x3), (4, .int x4), (5, .int x5), (6, .int x6), (7, .int x7), (8, .int x8)] → W p l e rmX6_was st m args below meth c H locs 0 0 (MQ below (va_Qi (fun (r' : Int32) (τ' : ZS) => r' = r ∧ τ' = τ) (zPost (zcC a cI cJ cC) 41 a D [(cI, .int), (cJ, .long)]) (zF 41 a st.heap.size)) args st 0 0 (zF 41 a st.heap.size)) (F0 m 111 ls [])) (x1 : Int32) (x2 : Int32) (x3 : Int32) (x4 : Int32) (x5 : Int32) (x6 : Int32) (x7 : Int32) (x8 : Int32) (x9 : Int32) (t0 : Int32) (s : ZS) (H : Heap) (locs : List Loc) (ls : Array Slot), fX6_was_158 k111 x1 x2 x3 x4 x5 x6 x7 x8 x9 t0 s = some (r, τ) → va_P D vwCl (zW (zcC a cI cJ cC) 41 a s) H → va_S (zF 41 a st.heap.size) st.heap H locs → lv_has ls 11 [(0, .ref (a 0)), (1, .int x1), (2, .int x2), (3, .int x3), (4, .int x4), (5, .int x5), (6, .int x6), (7, .int x7), (8, .int x8), (9, .int x9)] → W p l e rmX6_was st m args below meth c H locs 0 0 (MQ below (va_Qi (fun (r' : Int32) (τ' : ZS) => r' = r ∧ τ' = τ) (zPost (zcC a cI cJ cC) 41 a D [(cI, .int), (cJ, .long)]) (zF 41 a st.heap.size)) args st 0 0 (zF 41 a st.heap.size)) (F0 m 158 ls [.int t0]) := by
    intro k111 hk111 x1 x2 x3 x4 x5 x6 x7 x8 x9 t0 s H locs ls h hP hS hl
    refine lv_istore (lv' := [(10, .int t0), (0, .ref (a 0)), (1, .int x1), (2, .int x2), (3, .int x3), (4, .int x4), (5, .int x5), (6, .int x6), (7, .int x7), (8, .int x8), (9, .int x9)]) hx hb dX6_was_158 hl (by decide) rfl (fun ls hl => ?_)
    refine lv_aload_n hx hb dX6_was_160 rfl (lv_at hl 1 rfl) ?_
    refine z_get (C := RX6) (T := TX6) (N := 12) X inX6 hP 0 (by decide) (zcC_0 _ _ _ _ _ _) rfl 3 (by decide) rfl (by decide +kernel) rfl dX6_was_161 ?_
    refine lv_iload_n hx hb dX6_was_164 rfl (lv_at hl 2 rfl) ?_
    refine lv_iload hx hb dX6_was_165 (lv_at hl 10 rfl) ?_
    refine lv_iload hx hb dX6_was_167 (lv_at hl 0 rfl) ?_
    obtain ⟨u1, s1, e1, h⟩ := zb_some h
    refine z_callv hS (z_runV (As := [.int x1, .int x9, .int t0]) (rest := []) X hG hA hE hP hS 19 (kX0_lookAtSheetAs (l := l) (D := D) (a := a) (cI := cI) (cJ := cJ) (cC := cC) (adK := adK) (adV := adV) e1 _) (cwV 3 hts gX6_was_X0_lookAtSheetAs rfl rfl rfl (by decide +kernel) ⟨Nat.le_of_ble_eq_true rfl, Nat.le_of_ble_eq_true rfl⟩) (by decide) (zcC_19 _ _ _ _ _ _) rfl rfl rfl hl.1 rfl (Nat.le_of_ble_eq_true rfl) dX6_was_169) (fun H locs hP hS => ?_)
    refine lv_aload_n hx hb dX6_was_172 rfl (lv_at hl 1 rfl) ?_
    refine z_get (C := RX6) (T := TX6) (N := 12) X inX6 hP 0 (by decide) (zcC_0 _ _ _ _ _ _) rfl 3 (by decide) rfl (by decide +kernel) rfl dX6_was_173 ?_
    refine lv_iload_n hx hb dX6_was_176 rfl (lv_at hl 3 rfl) ?_
    obtain ⟨u2, s2, e2, h⟩ := zb_some h
    refine z_callv hS (z_runV (As := [.int x2]) (rest := []) X hG hA hE hP hS 19 (kX0_pileStack (l := l) (D := D) (a := a) (cI := cI) (cJ := cJ) (cC := cC) (adK := adK) (adV := adV) e2 _) (cwV 1 hts gX6_was_X0_pileStack rfl rfl rfl (by decide +kernel) ⟨Nat.le_of_ble_eq_true rfl, Nat.le_of_ble_eq_true rfl⟩) (by decide) (zcC_19 _ _ _ _ _ _) rfl rfl rfl hl.1 rfl (Nat.le_of_ble_eq_true rfl) dX6_was_177) (fun H locs hP hS => ?_)
    refine lv_aload_n hx hb dX6_was_180 rfl (lv_at hl 1 rfl) ?_
    refine lv_iload hx hb dX6_was_181 (lv_at hl 5 rfl) ?_
    refine lv_iload_n hx hb dX6_was_183 rfl (lv_at hl 4 rfl) ?_
    obtain ⟨u3, s3, e3, h⟩ := zb_some h
    refine z_calli hS (z_runV (As := [.int x4, .int x3]) (rest := []) X hG hA hE hP hS 0 (kX6_listTellsShades (l := l) (D := D) (a := a) (cI := cI) (cJ := cJ) (cC := cC) (adK := adK) (adV := adV) e3 _) (cwV 2 hts gX6_was_X6_listTellsShades rfl rfl rfl (by decide +kernel) ⟨Nat.le_of_ble_eq_true rfl, Nat.le_of_ble_eq_true rfl⟩) (by decide) (zcC_0 _ _ _ _ _ _) rfl rfl rfl hl.1 rfl (Nat.le_of_ble_eq_true rfl) dX6_was_184) (fun H locs hP hS => ?_)
    refine lv_if_eq (tgt := 199) hx hb dX6_was_187 (by decide) (fun c4 => ?_) (fun c4 => ?_)
    · have h := zif_t h c4
      exact w199 k111 hk111  (x1) (x2) (x3) (x4) (x5) (x6) (x7) (x8) (s3) _ _ _ h hP hS (lv_sub hl [1, 2, 3, 4, 5, 6, 7, 8, 9] rfl)
    · have h := zif_f h c4
      refine lv_iload hx hb dX6_was_190 (lv_at hl 7 rfl) ?_
      refine lv_iconst (v := 1) hx hb dX6_was_192 (by decide) ?_
      refine lv_iload hx hb dX6_was_193 (lv_at hl 9 rfl) ?_
      refine lv_ishl hx hb dX6_was_195 ?_
      refine lv_ior hx hb dX6_was_196 ?_
      refine lv_istore (lv' := [(6, .int (x6 ||| ((1 : Int32) <<< (x8 &&& 31)))), (10, .int t0), (0, .ref (a 0)), (1, .int x1), (2, .int x2), (3, .int x3), (4, .int x4), (5, .int x5), (7, .int x7), (8, .int x8), (9, .int x9)]) hx hb dX6_was_197 hl (by decide) rfl (fun ls hl => ?_)
      exact w199 k111 hk111  (x1) (x2) (x3) (x4) (x5) ((x6 ||| ((1 : Int32) <<< (x8 &&& 31)))) (x7) (x8) (s3) _ _ _ h hP hS (lv_sub hl [2, 3, 4, 5, 6, 7, 0, 8, 9] rfl)
  have w137 : ∀ (k111 : Int32 → Int32 → Int32 → Int32 → Int32 → Int32 → Int32 → Int32 → ZS → Option (Int32 × ZS)) (hk111 : ∀ (x1 : Int32) (x2 : Int32) (x3 : Int32) (x4 : Int32) (x5 : Int32) (x6 : Int32) (x7 : Int32) (x8 : Int32) (s : ZS) (H : Heap) (locs : List Loc) (ls : Array Slot), k111 x1 x2 x3 x4 x5 x6 x7 x8 s = some (r, τ) → va_P D vwCl (zW (zcC a cI cJ cC) 41 a s) H → va_S (zF 41 a st.heap.size) st.heap H locs → lv_has ls 11 [(0, .ref (a 0)), (1, .int x1), (2, .int x2), (3, .int x3), (4, .int x4), (5, .int x5), (6, .int x6), (7, .int x7), (8, .int x8)] → W p l e rmX6_was st m args below meth c H locs 0 0 (MQ below (va_Qi (fun (r' : Int32) (τ' : ZS) => r' = r ∧ τ' = τ) (zPost (zcC a cI cJ cC) 41 a D [(cI, .int), (cJ, .long)]) (zF 41 a st.heap.size)) args st 0 0 (zF 41 a st.heap.size)) (F0 m 111 ls [])) (x1 : Int32) (x2 : Int32) (x3 : Int32) (x4 : Int32) (x5 : Int32) (x6 : Int32) (x7 : Int32) (x8 : Int32) (t0 : Int32) (s : ZS) (H : Heap) (locs : List Loc) (ls : Array Slot), fX6_was_137 k111 x1 x2 x3 x4 x5 x6 x7 x8 t0 s = some (r, τ) → va_P D vwCl (zW (zcC a cI cJ cC) 41 a s) H → va_S (zF 41 a st.heap.size) st.heap H locs → lv_has ls 11 [(0, .ref (a 0)), (1, .int x1), (2, .int x2), (3, .int x3), (4, .int x4), (5, .int x5), (6, .int x6), (7, .int x7), (8, .int x8)] → W p l e rmX6_was st m args below meth c H locs 0 0 (MQ below (va_Qi (fun (r' : Int32) (τ' : ZS) => r' = r ∧ τ' = τ) (zPost (zcC a cI cJ cC) 41 a D [(cI, .int), (cJ, .long)]) (zF 41 a st.heap.size)) args st 0 0 (zF 41 a st.heap.size)) (F0 m 137 ls [.int t0]) := by
    intro k111 hk111 x1 x2 x3 x4 x5 x6 x7 x8 t0 s H locs ls h hP hS hl
    refine lv_istore (lv' := [(9, .int t0), (0, .ref (a 0)), (1, .int x1), (2, .int x2), (3, .int x3), (4, .int x4), (5, .int x5), (6, .int x6), (7, .int x7), (8, .int x8)]) hx hb dX6_was_137 hl (by decide) rfl (fun ls hl => ?_)
    refine lv_iload hx hb dX6_was_139 (lv_at hl 6 rfl) ?_
    refine lv_if_ne (tgt := 156) hx hb dX6_was_141 (by decide) (fun c1 => ?_) (fun c1 => ?_)
    · have h := zif_f h c1
      refine lv_iload hx hb dX6_was_156 (lv_at hl 9 rfl) ?_
      exact w158 k111 hk111  (x1) (x2) (x3) (x4) (x5) (x6) (x7) (x8) (t0) (x8) (s) _ _ _ h hP hS (lv_sub hl [1, 2, 3, 4, 5, 6, 7, 8, 9, 0] rfl)
    · have h := zif_t h c1
      refine lv_aload_n hx hb dX6_was_144 rfl (lv_at hl 1 rfl) ?_
      refine z_get (C := RX6) (T := TX6) (N := 12) X inX6 hP 0 (by decide) (zcC_0 _ _ _ _ _ _) rfl 0 (by decide) rfl (by decide +kernel) rfl dX6_was_145 ?_
      refine z_get (C := RX3) (T := TX3) (N := 10) X inX3 hP 1 (by decide) (zcC_1 _ _ _ _ _ _) rfl 2 (by decide) rfl (by decide +kernel) rfl dX6_was_148 ?_
      refine lv_iload_n hx hb dX6_was_151 rfl (lv_at hl 2 rfl) ?_
      obtain ⟨g2, h⟩ := zg_some h
      refine z_iald X hP 3 0 (by decide) (zcC_3 _ _ _ _ _ _) rfl g2 dX6_was_152 ?_
      refine lv_goto (tgt := 158) hx hb dX6_was_153 (by decide) ?_
      exact w158 k111 hk111  (x1) (x2) (x3) (x4) (x5) (x6) (x7) (x8) (t0) (((s).1 3 (x1).toNatClampNeg)) (s) _ _ _ h hP hS (lv_sub hl [1, 2, 3, 4, 5, 6, 7, 8, 9, 0] rfl)
  have w111 : ∀  (n : Nat) (x1 : Int32) (x2 : Int32) (x3 : Int32) (x4 : Int32) (x5 : Int32) (x6 : Int32) (x7 : Int32) (x8 : Int32) (s : ZS) (H : Heap) (locs : List Loc) (ls : Array Slot), fX6_was_111n  n (x1, x2, x3, x4, x5, x6, x7, x8, s) = some (r, τ) → va_P D vwCl (zW (zcC a cI cJ cC) 41 a s) H → va_S (zF 41 a st.heap.size) st.heap H locs → lv_has ls 11 [(0, .ref (a 0)), (1, .int x1), (2, .int x2), (3, .int x3), (4, .int x4), (5, .int x5), (6, .int x6), (7, .int x7), (8, .int x8)] → W p l e rmX6_was st m args below meth c H locs 0 0 (MQ below (va_Qi (fun (r' : Int32) (τ' : ZS) => r' = r ∧ τ' = τ) (zPost (zcC a cI cJ cC) 41 a D [(cI, .int), (cJ, .long)]) (zF 41 a st.heap.size)) args st 0 0 (zF 41 a st.heap.size)) (F0 m 111 ls []) := by
    intro  n
    induction n with
    | zero => intro x1 x2 x3 x4 x5 x6 x7 x8 s H locs ls h; exact zloop_0 h
    | succ n ih =>
      intro x1 x2 x3 x4 x5 x6 x7 x8 s H locs ls h hP hS hl
      have h : fX6_was_111b  (fun x1 x2 x3 x4 x5 x6 x7 x8 s => fX6_was_111n  n (x1, x2, x3, x4, x5, x6, x7, x8, s)) x1 x2 x3 x4 x5 x6 x7 x8 s = some (r, τ) := h
      refine lv_iload hx hb dX6_was_111 (lv_at hl 8 rfl) ?_
      refine lv_iload hx hb dX6_was_113 (lv_at hl 7 rfl) ?_
      refine lv_icmp_ge (tgt := 205) hx hb dX6_was_115 (by decide) (fun c1 => ?_) (fun c1 => ?_)
      · have h := zif_t h c1
        refine lv_iload hx hb dX6_was_205 (lv_at hl 6 rfl) ?_
        exact z_iret X hP hS hr hlocks h dX6_was_207
      · have h := zif_f h c1
        refine lv_iload hx hb dX6_was_118 (lv_at hl 5 rfl) ?_
        refine lv_if_ne (tgt := 128) hx hb dX6_was_120 (by decide) (fun c2 => ?_) (fun c2 => ?_)
        · have h := zif_f h c2
          refine lv_aload_n hx hb dX6_was_128 rfl (lv_at hl 0 rfl) ?_
          refine z_get (C := RX6) (T := TX6) (N := 12) X inX6 hP 0 (by decide) (zcC_0 _ _ _ _ _ _) rfl 0 (by decide) rfl (by decide +kernel) rfl dX6_was_129 ?_
          refine z_get (C := RX3) (T := TX3) (N := 10) X inX3 hP 1 (by decide) (zcC_1 _ _ _ _ _ _) rfl 1 (by decide) rfl (by decide +kernel) rfl dX6_was_132 ?_
          refine lv_iload_n hx hb dX6_was_135 rfl (lv_at hl 1 rfl) ?_
          obtain ⟨g3, h⟩ := zg_some h
          refine z_iald X hP 2 0 (by decide) (zcC_2 _ _ _ _ _ _) rfl g3 dX6_was_136 ?_
          exact w137 (fun x1 x2 x3 x4 x5 x6 x7 x8 s => fX6_was_111n  n (x1, x2, x3, x4, x5, x6, x7, x8, s)) (fun x1 x2 x3 x4 x5 x6 x7 x8 s H locs ls h hP hS hl => ih x1 x2 x3 x4 x5 x6 x7 x8 s H locs ls h hP hS hl)  (x1) (x2) (x3) (x4) (x5) (x6) (x7) (x8) (((s).1 2 (x1).toNatClampNeg)) (s) _ _ _ h hP hS (lv_sub hl [0, 1, 2, 3, 4, 5, 6, 7, 8] rfl)
        · have h := zif_t h c2
          refine lv_iload hx hb dX6_was_123 (lv_at hl 8 rfl) ?_
          refine lv_goto (tgt := 137) hx hb dX6_was_125 (by decide) ?_
          exact w137 (fun x1 x2 x3 x4 x5 x6 x7 x8 s => fX6_was_111n  n (x1, x2, x3, x4, x5, x6, x7, x8, s)) (fun x1 x2 x3 x4 x5 x6 x7 x8 s H locs ls h hP hS hl => ih x1 x2 x3 x4 x5 x6 x7 x8 s H locs ls h hP hS hl)  (x1) (x2) (x3) (x4) (x5) (x6) (x7) (x8) (x8) (s) _ _ _ h hP hS (lv_sub hl [0, 1, 2, 3, 4, 5, 6, 7, 8] rfl)
  have w106 : ∀  (x1 : Int32) (x2 : Int32) (x3 : Int32) (x4 : Int32) (x5 : Int32) (x6 : Int32) (t0 : Int32) (s : ZS) (H : Heap) (locs : List Loc) (ls : Array Slot), fX6_was_106  x1 x2 x3 x4 x5 x6 t0 s = some (r, τ) → va_P D vwCl (zW (zcC a cI cJ cC) 41 a s) H → va_S (zF 41 a st.heap.size) st.heap H locs → lv_has ls 11 [(0, .ref (a 0)), (1, .int x1), (2, .int x2), (3, .int x3), (4, .int x4), (5, .int x5), (6, .int x6)] → W p l e rmX6_was st m args below meth c H locs 0 0 (MQ below (va_Qi (fun (r' : Int32) (τ' : ZS) => r' = r ∧ τ' = τ) (zPost (zcC a cI cJ cC) 41 a D [(cI, .int), (cJ, .long)]) (zF 41 a st.heap.size)) args st 0 0 (zF 41 a st.heap.size)) (F0 m 106 ls [.int t0]) := by
    intro  x1 x2 x3 x4 x5 x6 t0 s H locs ls h hP hS hl
    refine lv_istore (lv' := [(7, .int t0), (0, .ref (a 0)), (1, .int x1), (2, .int x2), (3, .int x3), (4, .int x4), (5, .int x5), (6, .int x6)]) hx hb dX6_was_106 hl (by decide) rfl (fun ls hl => ?_)
    refine lv_iconst (v := 0) hx hb dX6_was_108 (by decide) ?_
    refine lv_istore (lv' := [(8, .int (0 : Int32)), (7, .int t0), (0, .ref (a 0)), (1, .int x1), (2, .int x2), (3, .int x3), (4, .int x4), (5, .int x5), (6, .int x6)]) hx hb dX6_was_109 hl (by decide) rfl (fun ls hl => ?_)
    exact w111  zN (x1) (x2) (x3) (x4) (x5) (x6) (t0) ((0 : Int32)) (s) _ _ _ h hP hS (lv_sub hl [2, 3, 4, 5, 6, 7, 8, 1, 0] rfl)
  have hl : lv_has ls 11 [(0, .ref (a 0)), (1, .int x1), (2, .int x2), (3, .int x3), (4, .int x4), (5, .int x5)] := hl
  refine lv_aload_n hx hb dX6_was_0 rfl (lv_at hl 0 rfl) ?_
  refine z_get (C := RX6) (T := TX6) (N := 12) X inX6 hP 0 (by decide) (zcC_0 _ _ _ _ _ _) rfl 0 (by decide) rfl (by decide +kernel) rfl dX6_was_1 ?_
  refine lv_iload_n hx hb dX6_was_4 rfl (lv_at hl 1 rfl) ?_
  obtain ⟨u1, s1, e1, h⟩ := zb_some h
  refine z_calli hS (z_runV (As := [.int x1]) (rest := []) X hG hA hE hP hS 1 (kX3_hasSheet (l := l) (D := D) (a := a) (cI := cI) (cJ := cJ) (cC := cC) (adK := adK) (adV := adV) e1 _) (cwV 1 hts gX6_was_X3_hasSheet rfl rfl rfl (by decide +kernel) ⟨Nat.le_of_ble_eq_true rfl, Nat.le_of_ble_eq_true rfl⟩) (by decide) (zcC_1 _ _ _ _ _ _) rfl rfl rfl hl.1 rfl (Nat.le_of_ble_eq_true rfl) dX6_was_5) (fun H locs hP hS => ?_)
  refine lv_if_eq (tgt := 30) hx hb dX6_was_8 (by decide) (fun c2 => ?_) (fun c2 => ?_)
  · have h := zif_t h c2
    refine lv_iconst (v := -1) hx hb dX6_was_30 (by decide) ?_
    exact z_iret X hP hS hr hlocks h dX6_was_31
  · have h := zif_f h c2
    refine lv_aload_n hx hb dX6_was_11 rfl (lv_at hl 0 rfl) ?_
    refine z_get (C := RX6) (T := TX6) (N := 12) X inX6 hP 0 (by decide) (zcC_0 _ _ _ _ _ _) rfl 0 (by decide) rfl (by decide +kernel) rfl dX6_was_12 ?_
    refine lv_iload_n hx hb dX6_was_15 rfl (lv_at hl 2 rfl) ?_
    obtain ⟨u3, s3, e3, h⟩ := zb_some h
    refine z_calli hS (z_runV (As := [.int x2]) (rest := []) X hG hA hE hP hS 1 (kX3_hasStack (l := l) (D := D) (a := a) (cI := cI) (cJ := cJ) (cC := cC) (adK := adK) (adV := adV) e3 _) (cwV 1 hts gX6_was_X3_hasStack rfl rfl rfl (by decide +kernel) ⟨Nat.le_of_ble_eq_true rfl, Nat.le_of_ble_eq_true rfl⟩) (by decide) (zcC_1 _ _ _ _ _ _) rfl rfl rfl hl.1 rfl (Nat.le_of_ble_eq_true rfl) dX6_was_16) (fun H locs hP hS => ?_)
    refine lv_if_eq (tgt := 30) hx hb dX6_was_19 (by decide) (fun c4 => ?_) (fun c4 => ?_)
    · have h := zif_t h c4
      refine lv_iconst (v := -1) hx hb dX6_was_30 (by decide) ?_
      exact z_iret X hP hS hr hlocks h dX6_was_31
    · have h := zif_f h c4
      refine lv_iload_n hx hb dX6_was_22 rfl (lv_at hl 3 rfl) ?_
      refine lv_iconst (v := 3) hx hb dX6_was_23 (by decide) ?_
      obtain ⟨u5, s5, e5, h⟩ := zb_some h
      refine z_calli hS (z_runS (As := [.int x3, .int (3 : Int32)]) (rest := []) X hG hA hE hP hS (kX6_within (l := l) (D := D) (a := a) (cI := cI) (cJ := cJ) (cC := cC) (adK := adK) (adV := adV) e5 _) (va_cwS 2 hts gX6_was_X6_within rfl rfl rfl (by decide +kernel) ⟨Nat.le_of_ble_eq_true rfl, Nat.le_of_ble_eq_true rfl⟩) rfl hl.1 rfl (Nat.le_of_ble_eq_true rfl) dX6_was_24) (fun H locs hP hS => ?_)
      refine lv_if_ne (tgt := 32) hx hb dX6_was_27 (by decide) (fun c6 => ?_) (fun c6 => ?_)
      · have h := zif_f h c6
        refine lv_iload hx hb dX6_was_32 (lv_at hl 4 rfl) ?_
        refine lv_iconst (v := 4) hx hb dX6_was_34 (by decide) ?_
        obtain ⟨u7, s7, e7, h⟩ := zb_some h
        refine z_calli hS (z_runS (As := [.int x4, .int (4 : Int32)]) (rest := []) X hG hA hE hP hS (kX6_within (l := l) (D := D) (a := a) (cI := cI) (cJ := cJ) (cC := cC) (adK := adK) (adV := adV) e7 _) (va_cwS 2 hts gX6_was_X6_within rfl rfl rfl (by decide +kernel) ⟨Nat.le_of_ble_eq_true rfl, Nat.le_of_ble_eq_true rfl⟩) rfl hl.1 rfl (Nat.le_of_ble_eq_true rfl) dX6_was_35) (fun H locs hP hS => ?_)
        refine lv_if_eq (tgt := 50) hx hb dX6_was_38 (by decide) (fun c8 => ?_) (fun c8 => ?_)
        · have h := zif_t h c8
          refine lv_iconst (v := -1) hx hb dX6_was_50 (by decide) ?_
          exact z_iret X hP hS hr hlocks h dX6_was_51
        · have h := zif_f h c8
          refine lv_iload hx hb dX6_was_41 (lv_at hl 5 rfl) ?_
          refine lv_iconst (v := 2) hx hb dX6_was_43 (by decide) ?_
          obtain ⟨u9, s9, e9, h⟩ := zb_some h
          refine z_calli hS (z_runS (As := [.int x5, .int (2 : Int32)]) (rest := []) X hG hA hE hP hS (kX6_within (l := l) (D := D) (a := a) (cI := cI) (cJ := cJ) (cC := cC) (adK := adK) (adV := adV) e9 _) (va_cwS 2 hts gX6_was_X6_within rfl rfl rfl (by decide +kernel) ⟨Nat.le_of_ble_eq_true rfl, Nat.le_of_ble_eq_true rfl⟩) rfl hl.1 rfl (Nat.le_of_ble_eq_true rfl) dX6_was_44) (fun H locs hP hS => ?_)
          refine lv_if_ne (tgt := 52) hx hb dX6_was_47 (by decide) (fun c10 => ?_) (fun c10 => ?_)
          · have h := zif_f h c10
            refine lv_aload_n hx hb dX6_was_52 rfl (lv_at hl 0 rfl) ?_
            refine z_get (C := RX6) (T := TX6) (N := 12) X inX6 hP 0 (by decide) (zcC_0 _ _ _ _ _ _) rfl 7 (by decide) rfl (by decide +kernel) rfl dX6_was_53 ?_
            refine lv_iload hx hb dX6_was_56 (lv_at hl 4 rfl) ?_
            obtain ⟨u11, s11, e11, h⟩ := zb_some h
            refine z_calli hS (z_runV (As := [.int x4]) (rest := []) X hG hA hE hP hS 34 (kX1_isHeld (l := l) (D := D) (a := a) (cI := cI) (cJ := cJ) (cC := cC) (adK := adK) (adV := adV) e11 _) (cwV 1 hts gX6_was_X1_isHeld rfl rfl rfl (by decide +kernel) ⟨Nat.le_of_ble_eq_true rfl, Nat.le_of_ble_eq_true rfl⟩) (by decide) (zcC_34 _ _ _ _ _ _) rfl rfl rfl hl.1 rfl (Nat.le_of_ble_eq_true rfl) dX6_was_58) (fun H locs hP hS => ?_)
            refine lv_if_ne (tgt := 67) hx hb dX6_was_61 (by decide) (fun c12 => ?_) (fun c12 => ?_)
            · have h := zif_f h c12
              refine lv_aload_n hx hb dX6_was_67 rfl (lv_at hl 0 rfl) ?_
              refine z_get (C := RX6) (T := TX6) (N := 12) X inX6 hP 0 (by decide) (zcC_0 _ _ _ _ _ _) rfl 7 (by decide) rfl (by decide +kernel) rfl dX6_was_68 ?_
              refine z_get (C := RX1) (T := TX1) (N := 2) X inX1 hP 34 (by decide) (zcC_34 _ _ _ _ _ _) rfl 1 (by decide) rfl (by decide +kernel) rfl dX6_was_71 ?_
              refine lv_iload hx hb dX6_was_74 (lv_at hl 4 rfl) ?_
              obtain ⟨g13, h⟩ := zg_some h
              refine z_iald X hP 36 0 (by decide) (zcC_36 _ _ _ _ _ _) rfl g13 dX6_was_76 ?_
              refine lv_iconst (v := 3) hx hb dX6_was_77 (by decide) ?_
              refine lv_icmp_ge (tgt := 84) hx hb dX6_was_78 (by decide) (fun c14 => ?_) (fun c14 => ?_)
              · have h := zif_t h c14
                refine lv_aload_n hx hb dX6_was_84 rfl (lv_at hl 0 rfl) ?_
                refine z_get (C := RX6) (T := TX6) (N := 12) X inX6 hP 0 (by decide) (zcC_0 _ _ _ _ _ _) rfl 3 (by decide) rfl (by decide +kernel) rfl dX6_was_85 ?_
                obtain ⟨u15, s15, e15, h⟩ := zb_some h
                refine z_callv hS (z_runV (As := []) (rest := []) X hG hA hE hP hS 19 (kX0_lookAtSheets (l := l) (D := D) (a := a) (cI := cI) (cJ := cJ) (cC := cC) (adK := adK) (adV := adV) e15 _) (cwV 0 hts gX6_was_X0_lookAtSheets rfl rfl rfl (by decide +kernel) ⟨Nat.le_of_ble_eq_true rfl, Nat.le_of_ble_eq_true rfl⟩) (by decide) (zcC_19 _ _ _ _ _ _) rfl rfl rfl hl.1 rfl (Nat.le_of_ble_eq_true rfl) dX6_was_88) (fun H locs hP hS => ?_)
                refine lv_iconst (v := 0) hx hb dX6_was_91 (by decide) ?_
                refine lv_istore (lv' := [(6, .int (0 : Int32)), (0, .ref (a 0)), (1, .int x1), (2, .int x2), (3, .int x3), (4, .int x4), (5, .int x5)]) hx hb dX6_was_92 hl (by decide) rfl (fun ls hl => ?_)
                refine lv_iload hx hb dX6_was_94 (lv_at hl 6 rfl) ?_
                refine lv_if_ne (tgt := 104) hx hb dX6_was_96 (by decide) (fun c16 => ?_) (fun c16 => ?_)
                · have h := zif_f h c16
                  refine lv_bipush (v := 10) hx hb dX6_was_104 (by decide) ?_
                  exact w106   (x1) (x2) (x3) (x4) (x5) ((0 : Int32)) ((10 : Int32)) (s15) _ _ _ h hP hS (lv_sub hl [1, 2, 3, 4, 5, 6, 0] rfl)
                · have h := zif_t h c16
                  refine lv_bipush (v := 6) hx hb dX6_was_99 (by decide) ?_
                  refine lv_goto (tgt := 106) hx hb dX6_was_101 (by decide) ?_
                  exact w106   (x1) (x2) (x3) (x4) (x5) ((0 : Int32)) ((6 : Int32)) (s15) _ _ _ h hP hS (lv_sub hl [1, 2, 3, 4, 5, 6, 0] rfl)
              · have h := zif_f h c14
                refine lv_bipush (v := -13) hx hb dX6_was_81 (by decide) ?_
                exact z_iret X hP hS hr hlocks h dX6_was_83
            · have h := zif_t h c12
              refine lv_bipush (v := -11) hx hb dX6_was_64 (by decide) ?_
              exact z_iret X hP hS hr hlocks h dX6_was_66
          · have h := zif_t h c10
            refine lv_iconst (v := -1) hx hb dX6_was_50 (by decide) ?_
            exact z_iret X hP hS hr hlocks h dX6_was_51
      · have h := zif_t h c6
        refine lv_iconst (v := -1) hx hb dX6_was_30 (by decide) ?_
        exact z_iret X hP hS hr hlocks h dX6_was_31
abbrev rmX0_pileDrawn : Room := { frames := 2, cells := 0, slots := 0, locals := 43 }
set_option maxHeartbeats 4000000 in
set_option maxRecDepth 100000 in
theorem kX0_pileDrawn {l : Launch} {D : va_G} {a : Nat → Nat} {cI cJ cC : ClassId} {adK adV : Nat → Nat} {x1 : Int32} {x2 : Int32} {s τ : ZS} {r : Unit} (h : fX0_pileDrawn x1 x2 s = some (r, τ)) : zMv (zcC a cI cJ cC) 41 a D [(cI, .int), (cJ, .long)] (zEC adK adV) l yX0_pileDrawn wsX0_pileDrawn rmX0_pileDrawn [.ref (a 19), .int x1, .int x2] s r τ := by
  refine z_start (cc := cX0_pileDrawn) (maxL := 6) (ret := none) RX0 rfl (by decide) rfl (Nat.le_of_ble_eq_true rfl) ?_
  intro p e st m args below meth c ls H locs X hr hlocks hA hE hP hS hl
  obtain ⟨hx, hb, hml, hown, hts, -⟩ := id X
  have hG := zEC_good adK adV
  have inX0 : ∀ w ∈ u_ws RX0 TX0 5, w ∈ wsX0_pileDrawn := by decide +kernel
  have inX3 : ∀ w ∈ u_ws RX3 TX3 10, w ∈ wsX0_pileDrawn := by decide +kernel
  have w57 : ∀ (k9 : Int32 → Int32 → Int32 → ZS → Option (Unit × ZS)) (hk9 : ∀ (x1 : Int32) (x3 : Int32) (x4 : Int32) (s : ZS) (H : Heap) (locs : List Loc) (ls : Array Slot), k9 x1 x3 x4 s = some (r, τ) → va_P D vwCl (zW (zcC a cI cJ cC) 41 a s) H → va_S (zF 41 a st.heap.size) st.heap H locs → lv_has ls 6 [(0, .ref (a 19)), (1, .int x1), (3, .int x3), (4, .int x4)] → W p l e rmX0_pileDrawn st m args below meth c H locs 0 0 (MQ below (va_Qv (fun (τ' : ZS) => τ' = τ) (zPost (zcC a cI cJ cC) 41 a D [(cI, .int), (cJ, .long)]) (zF 41 a st.heap.size)) args st 0 0 (zF 41 a st.heap.size)) (F0 m 9 ls [])) (x1 : Int32) (x3 : Int32) (x4 : Int32) (s : ZS) (H : Heap) (locs : List Loc) (ls : Array Slot), fX0_pileDrawn_57 k9 x1 x3 x4 s = some (r, τ) → va_P D vwCl (zW (zcC a cI cJ cC) 41 a s) H → va_S (zF 41 a st.heap.size) st.heap H locs → lv_has ls 6 [(0, .ref (a 19)), (1, .int x1), (3, .int x3), (4, .int x4)] → W p l e rmX0_pileDrawn st m args below meth c H locs 0 0 (MQ below (va_Qv (fun (τ' : ZS) => τ' = τ) (zPost (zcC a cI cJ cC) 41 a D [(cI, .int), (cJ, .long)]) (zF 41 a st.heap.size)) args st 0 0 (zF 41 a st.heap.size)) (F0 m 57 ls []) := by
    intro k9 hk9 x1 x3 x4 s H locs ls h hP hS hl
    refine lv_iinc (v := (x4 + (1 : Int32))) (lv' := [(4, .int (x4 + (1 : Int32))), (0, .ref (a 19)), (1, .int x1), (3, .int x3)]) hx hb dX0_pileDrawn_57 hl (k := 3) rfl rfl (by decide) rfl (fun ls hl => ?_)
    refine lv_goto (tgt := 9) hx hb dX0_pileDrawn_60 (by decide) ?_
    exact hk9 (x1) (x3) ((x4 + (1 : Int32))) (s) _ _ _ h hP hS (lv_sub hl [1, 2, 3, 0] rfl)
  have w9 : ∀  (n : Nat) (x1 : Int32) (x3 : Int32) (x4 : Int32) (s : ZS) (H : Heap) (locs : List Loc) (ls : Array Slot), fX0_pileDrawn_9n  n (x1, x3, x4, s) = some (r, τ) → va_P D vwCl (zW (zcC a cI cJ cC) 41 a s) H → va_S (zF 41 a st.heap.size) st.heap H locs → lv_has ls 6 [(0, .ref (a 19)), (1, .int x1), (3, .int x3), (4, .int x4)] → W p l e rmX0_pileDrawn st m args below meth c H locs 0 0 (MQ below (va_Qv (fun (τ' : ZS) => τ' = τ) (zPost (zcC a cI cJ cC) 41 a D [(cI, .int), (cJ, .long)]) (zF 41 a st.heap.size)) args st 0 0 (zF 41 a st.heap.size)) (F0 m 9 ls []) := by
    intro  n
    induction n with
    | zero => intro x1 x3 x4 s H locs ls h; exact zloop_0 h
    | succ n ih =>
      intro x1 x3 x4 s H locs ls h hP hS hl
      have h : fX0_pileDrawn_9b  (fun x1 x3 x4 s => fX0_pileDrawn_9n  n (x1, x3, x4, s)) x1 x3 x4 s = some (r, τ) := h
      refine lv_iload hx hb dX0_pileDrawn_9 (lv_at hl 3 rfl) ?_
      refine lv_iload_n hx hb dX0_pileDrawn_11 rfl (lv_at hl 1 rfl) ?_
      refine lv_icmp_ge (tgt := 63) hx hb dX0_pileDrawn_12 (by decide) (fun c1 => ?_) (fun c1 => ?_)
      · have h := zif_t h c1
        exact z_vret X hP hS hr hlocks h dX0_pileDrawn_63
      · have h := zif_f h c1
        refine lv_iload_n hx hb dX0_pileDrawn_15 rfl (lv_at hl 2 rfl) ?_
        refine lv_ldc (own := RX0) (index := 78) (v := 1103515245) hx hb hown (hts _ (by decide +kernel)) dX0_pileDrawn_16 ?_
        refine lv_imul hx hb dX0_pileDrawn_18 ?_
        refine lv_sipush (v := 12345) hx hb dX0_pileDrawn_19 (by decide) ?_
        refine lv_iadd hx hb dX0_pileDrawn_22 ?_
        refine lv_istore_n (lv' := [(3, .int ((x3 * (1103515245 : Int32)) + (12345 : Int32))), (0, .ref (a 19)), (1, .int x1), (4, .int x4)]) hx hb dX0_pileDrawn_23 rfl hl (by decide) rfl (fun ls hl => ?_)
        refine lv_iload_n hx hb dX0_pileDrawn_24 rfl (lv_at hl 0 rfl) ?_
        refine lv_ldc (own := RX0) (index := 79) (v := 2147483647) hx hb hown (hts _ (by decide +kernel)) dX0_pileDrawn_25 ?_
        refine lv_iand hx hb dX0_pileDrawn_27 ?_
        refine lv_ldc (own := RX0) (index := 80) (v := 65536) hx hb hown (hts _ (by decide +kernel)) dX0_pileDrawn_28 ?_
        obtain ⟨g2, h⟩ := zg_some h
        refine lv_idiv hx hb dX0_pileDrawn_30 (zne_ne g2) ?_
        refine lv_istore (lv' := [(5, .int ((((x3 * (1103515245 : Int32)) + (12345 : Int32)) &&& (2147483647 : Int32)) / (65536 : Int32))), (3, .int ((x3 * (1103515245 : Int32)) + (12345 : Int32))), (0, .ref (a 19)), (1, .int x1), (4, .int x4)]) hx hb dX0_pileDrawn_31 hl (by decide) rfl (fun ls hl => ?_)
        refine lv_aload_n hx hb dX0_pileDrawn_33 rfl (lv_at hl 2 rfl) ?_
        refine z_get (C := RX0) (T := TX0) (N := 5) X inX0 hP 19 (by decide) (zcC_19 _ _ _ _ _ _) rfl 0 (by decide) rfl (by decide +kernel) rfl dX0_pileDrawn_34 ?_
        refine z_get (C := RX3) (T := TX3) (N := 10) X inX3 hP 1 (by decide) (zcC_1 _ _ _ _ _ _) rfl 0 (by decide) rfl (by decide +kernel) rfl dX0_pileDrawn_37 ?_
        refine lv_if_le (tgt := 57) hx hb dX0_pileDrawn_40 (by decide) (fun c3 => ?_) (fun c3 => ?_)
        · have h := zif_t h c3
          exact w57 (fun x1 x3 x4 s => fX0_pileDrawn_9n  n (x1, x3, x4, s)) (fun x1 x3 x4 s H locs ls h hP hS hl => ih x1 x3 x4 s H locs ls h hP hS hl)  (x1) (((x3 * (1103515245 : Int32)) + (12345 : Int32))) (x4) (s) _ _ _ h hP hS (lv_sub hl [2, 3, 1, 4] rfl)
        · have h := zif_f h c3
          refine lv_aload_n hx hb dX0_pileDrawn_43 rfl (lv_at hl 2 rfl) ?_
          refine lv_iload hx hb dX0_pileDrawn_44 (lv_at hl 0 rfl) ?_
          refine lv_aload_n hx hb dX0_pileDrawn_46 rfl (lv_at hl 2 rfl) ?_
          refine z_get (C := RX0) (T := TX0) (N := 5) X inX0 hP 19 (by decide) (zcC_19 _ _ _ _ _ _) rfl 0 (by decide) rfl (by decide +kernel) rfl dX0_pileDrawn_47 ?_
          refine z_get (C := RX3) (T := TX3) (N := 10) X inX3 hP 1 (by decide) (zcC_1 _ _ _ _ _ _) rfl 0 (by decide) rfl (by decide +kernel) rfl dX0_pileDrawn_50 ?_
          obtain ⟨g4, h⟩ := zg_some h
          refine lv_irem hx hb dX0_pileDrawn_53 (zne_ne g4) ?_
          obtain ⟨u5, s5, e5, h⟩ := zb_some h
          refine z_callv hS (z_runV (As := [.int (((((x3 * (1103515245 : Int32)) + (12345 : Int32)) &&& (2147483647 : Int32)) / (65536 : Int32)) - ((((x3 * (1103515245 : Int32)) + (12345 : Int32)) &&& (2147483647 : Int32)) / (65536 : Int32)) / ((s).1 1 0) * ((s).1 1 0))]) (rest := []) X hG hA hE hP hS 19 (kX0_add (l := l) (D := D) (a := a) (cI := cI) (cJ := cJ) (cC := cC) (adK := adK) (adV := adV) e5 _) (cwV 1 hts gX0_pileDrawn_X0_add rfl rfl rfl (by decide +kernel) ⟨Nat.le_of_ble_eq_true rfl, Nat.le_of_ble_eq_true rfl⟩) (by decide) (zcC_19 _ _ _ _ _ _) rfl rfl rfl hl.1 rfl (Nat.le_of_ble_eq_true rfl) dX0_pileDrawn_54) (fun H locs hP hS => ?_)
          exact w57 (fun x1 x3 x4 s => fX0_pileDrawn_9n  n (x1, x3, x4, s)) (fun x1 x3 x4 s H locs ls h hP hS hl => ih x1 x3 x4 s H locs ls h hP hS hl)  (x1) (((x3 * (1103515245 : Int32)) + (12345 : Int32))) (x4) (s5) _ _ _ h hP hS (lv_sub hl [2, 3, 1, 4] rfl)
  have hl : lv_has ls 6 [(0, .ref (a 19)), (1, .int x1), (2, .int x2)] := hl
  refine lv_aload_n hx hb dX0_pileDrawn_0 rfl (lv_at hl 0 rfl) ?_
  obtain ⟨u1, s1, e1, h⟩ := zb_some h
  refine z_callv hS (z_runV (As := []) (rest := []) X hG hA hE hP hS 19 (kX0_clear (l := l) (D := D) (a := a) (cI := cI) (cJ := cJ) (cC := cC) (adK := adK) (adV := adV) e1 _) (cwV 0 hts gX0_pileDrawn_X0_clear rfl rfl rfl (by decide +kernel) ⟨Nat.le_of_ble_eq_true rfl, Nat.le_of_ble_eq_true rfl⟩) (by decide) (zcC_19 _ _ _ _ _ _) rfl rfl rfl hl.1 rfl (Nat.le_of_ble_eq_true rfl) dX0_pileDrawn_1) (fun H locs hP hS => ?_)
  refine lv_iload_n hx hb dX0_pileDrawn_4 rfl (lv_at hl 2 rfl) ?_
  refine lv_istore_n (lv' := [(3, .int x2), (0, .ref (a 19)), (1, .int x1), (2, .int x2)]) hx hb dX0_pileDrawn_5 rfl hl (by decide) rfl (fun ls hl => ?_)
  refine lv_iconst (v := 0) hx hb dX0_pileDrawn_6 (by decide) ?_
  refine lv_istore (lv' := [(4, .int (0 : Int32)), (3, .int x2), (0, .ref (a 19)), (1, .int x1), (2, .int x2)]) hx hb dX0_pileDrawn_7 hl (by decide) rfl (fun ls hl => ?_)
  exact w9  zN (x1) (x2) ((0 : Int32)) (s1) _ _ _ h hP hS (lv_sub hl [2, 3, 1, 0] rfl)
