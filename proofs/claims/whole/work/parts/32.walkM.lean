abbrev rmX7_sheet : Room := { frames := 3, cells := 0, slots := 0, locals := 68 }
set_option maxHeartbeats 4000000 in
set_option maxRecDepth 100000 in
theorem kX7_sheet {l : Launch} {D : va_G} {a : Nat → Nat} {cI cJ cC : ClassId} {x1 : Int32} {x2 : Int32} {s τ : ZS} {r : Int32} (h : fX7_sheet x1 x2 s = some (r, τ)) : zMi (zcM a cI cJ cC) 17 a D [(cI, .int), (cJ, .long), (cC, .char)] zEM l yX7_sheet wsX7_sheet rmX7_sheet [.ref (a 0), .int x1, .int x2] s r τ := by
  refine z_start (cc := cX7_sheet) (maxL := 3) (ret := (some .int)) RX7 rfl (by decide) rfl (Nat.le_of_ble_eq_true rfl) ?_
  intro p e st m args below meth c ls H locs X hr hlocks hA hE hP hS hl
  obtain ⟨hx, hb, hml, hown, hts, -⟩ := id X
  have hG := zEM_good
  have inX7 : ∀ w ∈ u_ws RX7 TX7 26, w ∈ wsX7_sheet := by decide +kernel
  have hl : lv_has ls 3 [(0, .ref (a 0)), (1, .int x1), (2, .int x2)] := hl
  refine lv_aload_n hx hb dX7_sheet_0 rfl (lv_at hl 0 rfl) ?_
  refine lv_iload_n hx hb dX7_sheet_1 rfl (lv_at hl 1 rfl) ?_
  obtain ⟨u1, s1, e1, h⟩ := zb_some h
  refine z_calli hS (z_runV (As := [.int x1]) (rest := []) X hG hA hE hP hS 0 (kX7_isSheet (l := l) (D := D) (a := a) (cI := cI) (cJ := cJ) (cC := cC) e1 _) (cwV 1 hts gX7_sheet_X7_isSheet rfl rfl rfl (by decide +kernel) ⟨Nat.le_of_ble_eq_true rfl, Nat.le_of_ble_eq_true rfl⟩) (by decide) (zcM_0 _ _ _ _ _ _) rfl rfl rfl hl.1 rfl (Nat.le_of_ble_eq_true rfl) dX7_sheet_2) (fun H locs hP hS => ?_)
  refine lv_if_ne (tgt := 10) hx hb dX7_sheet_5 (by decide) (fun c2 => ?_) (fun c2 => ?_)
  · have h := zif_f h c2
    refine lv_iload_n hx hb dX7_sheet_10 rfl (lv_at hl 2 rfl) ?_
    refine lv_i2l hx hb dX7_sheet_11 rfl ?_
    refine lv_lconst (v := 0) hx hb dX7_sheet_12 (by decide) ?_
    refine lv_lconst (v := 1) hx hb dX7_sheet_13 (by decide) ?_
    obtain ⟨u3, s3, e3, h⟩ := zb_some h
    refine z_calli hS (z_runS (As := [.long (x2).toInt64, .long (0 : Int64), .long (1 : Int64)]) (rest := []) X hG hA hE hP hS (kX7_isIn (l := l) (D := D) (a := a) (cI := cI) (cJ := cJ) (cC := cC) e3 _) (va_cwS 3 hts gX7_sheet_X7_isIn rfl rfl rfl (by decide +kernel) ⟨Nat.le_of_ble_eq_true rfl, Nat.le_of_ble_eq_true rfl⟩) rfl hl.1 rfl (Nat.le_of_ble_eq_true rfl) dX7_sheet_14) (fun H locs hP hS => ?_)
    refine lv_if_eq (tgt := 34) hx hb dX7_sheet_17 (by decide) (fun c4 => ?_) (fun c4 => ?_)
    · have h := zif_t h c4
      refine lv_iload_n hx hb dX7_sheet_34 rfl (lv_at hl 2 rfl) ?_
      refine lv_i2l hx hb dX7_sheet_35 rfl ?_
      refine lv_ldc2 (own := RX7) (index := 106) (v := 10) hx hb hown (hts _ (by decide +kernel)) dX7_sheet_36 ?_
      refine lv_ldc2 (own := RX7) (index := 163) (v := 14) hx hb hown (hts _ (by decide +kernel)) dX7_sheet_39 ?_
      obtain ⟨u5, s5, e5, h⟩ := zb_some h
      refine z_calli hS (z_runS (As := [.long (x2).toInt64, .long (10 : Int64), .long (14 : Int64)]) (rest := []) X hG hA hE hP hS (kX7_isIn (l := l) (D := D) (a := a) (cI := cI) (cJ := cJ) (cC := cC) e5 _) (va_cwS 3 hts gX7_sheet_X7_isIn rfl rfl rfl (by decide +kernel) ⟨Nat.le_of_ble_eq_true rfl, Nat.le_of_ble_eq_true rfl⟩) rfl hl.1 rfl (Nat.le_of_ble_eq_true rfl) dX7_sheet_42) (fun H locs hP hS => ?_)
      refine lv_if_eq (tgt := 58) hx hb dX7_sheet_45 (by decide) (fun c6 => ?_) (fun c6 => ?_)
      · have h := zif_t h c6
        refine lv_iload_n hx hb dX7_sheet_58 rfl (lv_at hl 2 rfl) ?_
        refine lv_i2l hx hb dX7_sheet_59 rfl ?_
        refine lv_ldc2 (own := RX7) (index := 165) (v := 20) hx hb hown (hts _ (by decide +kernel)) dX7_sheet_60 ?_
        refine lv_ldc2 (own := RX7) (index := 167) (v := 24) hx hb hown (hts _ (by decide +kernel)) dX7_sheet_63 ?_
        obtain ⟨u7, s7, e7, h⟩ := zb_some h
        refine z_calli hS (z_runS (As := [.long (x2).toInt64, .long (20 : Int64), .long (24 : Int64)]) (rest := []) X hG hA hE hP hS (kX7_isIn (l := l) (D := D) (a := a) (cI := cI) (cJ := cJ) (cC := cC) e7 _) (va_cwS 3 hts gX7_sheet_X7_isIn rfl rfl rfl (by decide +kernel) ⟨Nat.le_of_ble_eq_true rfl, Nat.le_of_ble_eq_true rfl⟩) rfl hl.1 rfl (Nat.le_of_ble_eq_true rfl) dX7_sheet_66) (fun H locs hP hS => ?_)
        refine lv_if_eq (tgt := 84) hx hb dX7_sheet_69 (by decide) (fun c8 => ?_) (fun c8 => ?_)
        · have h := zif_t h c8
          refine lv_iconst (v := -1) hx hb dX7_sheet_84 (by decide) ?_
          exact z_iret X hP hS hr hlocks h dX7_sheet_85
        · have h := zif_f h c8
          refine lv_aload_n hx hb dX7_sheet_72 rfl (lv_at hl 0 rfl) ?_
          refine lv_iload_n hx hb dX7_sheet_73 rfl (lv_at hl 1 rfl) ?_
          refine lv_iload_n hx hb dX7_sheet_74 rfl (lv_at hl 2 rfl) ?_
          refine lv_bipush (v := 20) hx hb dX7_sheet_75 (by decide) ?_
          refine lv_isub hx hb dX7_sheet_77 ?_
          obtain ⟨u9, s9, e9, h⟩ := zb_some h
          refine z_calli hS (z_runV (As := [.int x1, .int (x2 - (20 : Int32))]) (rest := []) X hG hA hE hP hS 0 (kX7_lets (l := l) (D := D) (a := a) (cI := cI) (cJ := cJ) (cC := cC) e9 _) (cwV 2 hts gX7_sheet_X7_lets rfl rfl rfl (by decide +kernel) ⟨Nat.le_of_ble_eq_true rfl, Nat.le_of_ble_eq_true rfl⟩) (by decide) (zcM_0 _ _ _ _ _ _) rfl rfl rfl hl.1 rfl (Nat.le_of_ble_eq_true rfl) dX7_sheet_78) (fun H locs hP hS => ?_)
          refine lv_goto (tgt := 85) hx hb dX7_sheet_81 (by decide) ?_
          exact z_iret X hP hS hr hlocks h dX7_sheet_85
      · have h := zif_f h c6
        refine lv_aload_n hx hb dX7_sheet_48 rfl (lv_at hl 0 rfl) ?_
        refine lv_iload_n hx hb dX7_sheet_49 rfl (lv_at hl 1 rfl) ?_
        refine lv_iload_n hx hb dX7_sheet_50 rfl (lv_at hl 2 rfl) ?_
        refine lv_bipush (v := 10) hx hb dX7_sheet_51 (by decide) ?_
        refine lv_isub hx hb dX7_sheet_53 ?_
        obtain ⟨u10, s10, e10, h⟩ := zb_some h
        refine z_calli hS (z_runV (As := [.int x1, .int (x2 - (10 : Int32))]) (rest := []) X hG hA hE hP hS 0 (kX7_numberOf (l := l) (D := D) (a := a) (cI := cI) (cJ := cJ) (cC := cC) e10 _) (cwV 2 hts gX7_sheet_X7_numberOf rfl rfl rfl (by decide +kernel) ⟨Nat.le_of_ble_eq_true rfl, Nat.le_of_ble_eq_true rfl⟩) (by decide) (zcM_0 _ _ _ _ _ _) rfl rfl rfl hl.1 rfl (Nat.le_of_ble_eq_true rfl) dX7_sheet_54) (fun H locs hP hS => ?_)
        exact z_iret X hP hS hr hlocks h dX7_sheet_57
    · have h := zif_f h c4
      refine lv_aload_n hx hb dX7_sheet_20 rfl (lv_at hl 0 rfl) ?_
      refine z_get (C := RX7) (T := TX7) (N := 26) X inX7 hP 0 (by decide) (zcM_0 _ _ _ _ _ _) rfl 0 (by decide) rfl (by decide +kernel) rfl dX7_sheet_21 ?_
      refine lv_iconst (v := 2) hx hb dX7_sheet_24 (by decide) ?_
      refine lv_bipush (v := 7) hx hb dX7_sheet_25 (by decide) ?_
      refine lv_iload_n hx hb dX7_sheet_27 rfl (lv_at hl 1 rfl) ?_
      refine lv_imul hx hb dX7_sheet_28 ?_
      refine lv_iadd hx hb dX7_sheet_29 ?_
      refine lv_iload_n hx hb dX7_sheet_30 rfl (lv_at hl 2 rfl) ?_
      refine lv_iadd hx hb dX7_sheet_31 ?_
      obtain ⟨g11, h⟩ := zg_some h
      refine z_iald X hP 1 0 (by decide) (zcM_1 _ _ _ _ _ _) rfl g11 dX7_sheet_32 ?_
      exact z_iret X hP hS hr hlocks h dX7_sheet_33
  · have h := zif_t h c2
    refine lv_iconst (v := -1) hx hb dX7_sheet_8 (by decide) ?_
    exact z_iret X hP hS hr hlocks h dX7_sheet_9
abbrev rmX7_stack : Room := { frames := 2, cells := 0, slots := 0, locals := 46 }
set_option maxHeartbeats 4000000 in
set_option maxRecDepth 100000 in
theorem kX7_stack {l : Launch} {D : va_G} {a : Nat → Nat} {cI cJ cC : ClassId}  {s τ : ZS} {r : Int32} (h : fX7_stack  s = some (r, τ)) : zMi (zcM a cI cJ cC) 17 a D [(cI, .int), (cJ, .long), (cC, .char)] zEM l yX7_stack wsX7_stack rmX7_stack [.ref (a 0)] s r τ := by
  refine z_start (cc := cX7_stack) (maxL := 6) (ret := (some .int)) RX7 rfl (by decide) rfl (Nat.le_of_ble_eq_true rfl) ?_
  intro p e st m args below meth c ls H locs X hr hlocks hA hE hP hS hl
  obtain ⟨hx, hb, hml, hown, hts, -⟩ := id X
  have hG := zEM_good
  have inX7 : ∀ w ∈ u_ws RX7 TX7 26, w ∈ wsX7_stack := by decide +kernel
  have w137 : ∀  (n : Nat) (x4 : Int32) (x5 : Int32) (s : ZS) (H : Heap) (locs : List Loc) (ls : Array Slot), fX7_stack_137n  n (x4, x5, s) = some (r, τ) → va_P D vwCl (zW (zcM a cI cJ cC) 17 a s) H → va_S (zF 17 a st.heap.size) st.heap H locs → lv_has ls 6 [(0, .ref (a 0)), (4, .int x4), (5, .int x5)] → W p l e rmX7_stack st m args below meth c H locs 0 0 (MQ below (va_Qi (fun (r' : Int32) (τ' : ZS) => r' = r ∧ τ' = τ) (zPost (zcM a cI cJ cC) 17 a D [(cI, .int), (cJ, .long), (cC, .char)]) (zF 17 a st.heap.size)) args st 0 0 (zF 17 a st.heap.size)) (F0 m 137 ls []) := by
    intro  n
    induction n with
    | zero => intro x4 x5 s H locs ls h; exact zloop_0 h
    | succ n ih =>
      intro x4 x5 s H locs ls h hP hS hl
      have h : fX7_stack_137b  (fun x4 x5 s => fX7_stack_137n  n (x4, x5, s)) x4 x5 s = some (r, τ) := h
      refine lv_iload hx hb dX7_stack_137 (lv_at hl 2 rfl) ?_
      refine lv_aload_n hx hb dX7_stack_139 rfl (lv_at hl 0 rfl) ?_
      refine z_get (C := RX7) (T := TX7) (N := 26) X inX7 hP 0 (by decide) (zcM_0 _ _ _ _ _ _) rfl 0 (by decide) rfl (by decide +kernel) rfl dX7_stack_140 ?_
      refine lv_iload hx hb dX7_stack_143 (lv_at hl 1 rfl) ?_
      obtain ⟨g1, h⟩ := zg_some h
      refine z_iald X hP 1 0 (by decide) (zcM_1 _ _ _ _ _ _) rfl g1 dX7_stack_145 ?_
      refine lv_icmp_ge (tgt := 177) hx hb dX7_stack_146 (by decide) (fun c2 => ?_) (fun c2 => ?_)
      · have h := zif_t h c2
        refine lv_aload_n hx hb dX7_stack_177 rfl (lv_at hl 0 rfl) ?_
        refine z_get (C := RX7) (T := TX7) (N := 26) X inX7 hP 0 (by decide) (zcM_0 _ _ _ _ _ _) rfl 0 (by decide) rfl (by decide +kernel) rfl dX7_stack_178 ?_
        refine lv_iconst (v := 1) hx hb dX7_stack_181 (by decide) ?_
        refine lv_dup2_11 hx hb dX7_stack_182 rfl rfl ?_
        obtain ⟨g3, h⟩ := zg_some h
        refine z_iald X hP 1 0 (by decide) (zcM_1 _ _ _ _ _ _) rfl g3 dX7_stack_183 ?_
        refine lv_iconst (v := 1) hx hb dX7_stack_184 (by decide) ?_
        refine lv_iadd hx hb dX7_stack_185 ?_
        obtain ⟨g4, h⟩ := zg_some h
        refine z_iast X hA hP hS 1 0 (by decide) (zcM_1 _ _ _ _) rfl g4 dX7_stack_186 (fun H locs hP hS => ?_)
        refine lv_aload_n hx hb dX7_stack_187 rfl (lv_at hl 0 rfl) ?_
        refine z_get (C := RX7) (T := TX7) (N := 26) X inX7 hP 0 (by decide) (zcM_0 _ _ _ _ _ _) rfl 0 (by decide) rfl (by decide +kernel) rfl dX7_stack_188 ?_
        refine lv_iconst (v := 1) hx hb dX7_stack_191 (by decide) ?_
        obtain ⟨g5, h⟩ := zg_some h
        refine z_iald X hP 1 0 (by decide) (zcM_1 _ _ _ _ _ _) rfl g5 dX7_stack_192 ?_
        refine lv_iconst (v := 1) hx hb dX7_stack_193 (by decide) ?_
        refine lv_isub hx hb dX7_stack_194 ?_
        exact z_iret X hP hS hr hlocks h dX7_stack_195
      · have h := zif_f h c2
        refine lv_aload_n hx hb dX7_stack_149 rfl (lv_at hl 0 rfl) ?_
        refine z_get (C := RX7) (T := TX7) (N := 26) X inX7 hP 0 (by decide) (zcM_0 _ _ _ _ _ _) rfl 0 (by decide) rfl (by decide +kernel) rfl dX7_stack_150 ?_
        refine lv_iload hx hb dX7_stack_153 (lv_at hl 1 rfl) ?_
        refine lv_iconst (v := 1) hx hb dX7_stack_155 (by decide) ?_
        refine lv_iadd hx hb dX7_stack_156 ?_
        refine lv_iload hx hb dX7_stack_157 (lv_at hl 2 rfl) ?_
        refine lv_iadd hx hb dX7_stack_159 ?_
        refine lv_aload_n hx hb dX7_stack_160 rfl (lv_at hl 0 rfl) ?_
        refine z_get (C := RX7) (T := TX7) (N := 26) X inX7 hP 0 (by decide) (zcM_0 _ _ _ _ _ _) rfl 7 (by decide) rfl (by decide +kernel) rfl dX7_stack_161 ?_
        refine lv_iload hx hb dX7_stack_164 (lv_at hl 2 rfl) ?_
        obtain ⟨g6, h⟩ := zg_some h
        refine z_iald X hP 6 0 (by decide) (zcM_6 _ _ _ _ _ _) rfl g6 dX7_stack_166 ?_
        refine lv_bipush (v := 97) hx hb dX7_stack_167 (by decide) ?_
        refine lv_isub hx hb dX7_stack_169 ?_
        obtain ⟨g7, h⟩ := zg_some h
        refine z_iast X hA hP hS 1 0 (by decide) (zcM_1 _ _ _ _) rfl g7 dX7_stack_170 (fun H locs hP hS => ?_)
        refine lv_iinc (v := (x5 + (1 : Int32))) (lv' := [(5, .int (x5 + (1 : Int32))), (0, .ref (a 0)), (4, .int x4)]) hx hb dX7_stack_171 hl (k := 2) rfl rfl (by decide) rfl (fun ls hl => ?_)
        refine lv_goto (tgt := 137) hx hb dX7_stack_174 (by decide) ?_
        exact ih (x4) ((x5 + (1 : Int32))) ((zI s 1 (((x4 + (1 : Int32)) + x5)).toNatClampNeg (((s).1 6 (x5).toNatClampNeg) - (97 : Int32)))) _ _ _ h hP hS (lv_sub hl [1, 2, 0] rfl)
  have w133 : ∀  (x4 : Int32) (t1 : Int32) (t2 : Int32) (s : ZS) (H : Heap) (locs : List Loc) (ls : Array Slot), fX7_stack_133  x4 t1 t2 s = some (r, τ) → va_P D vwCl (zW (zcM a cI cJ cC) 17 a s) H → va_S (zF 17 a st.heap.size) st.heap H locs → lv_has ls 6 [(0, .ref (a 0)), (4, .int x4)] → W p l e rmX7_stack st m args below meth c H locs 0 0 (MQ below (va_Qi (fun (r' : Int32) (τ' : ZS) => r' = r ∧ τ' = τ) (zPost (zcM a cI cJ cC) 17 a D [(cI, .int), (cJ, .long), (cC, .char)]) (zF 17 a st.heap.size)) args st 0 0 (zF 17 a st.heap.size)) (F0 m 133 ls [.int t2, .int t1, .ref (a 1)]) := by
    intro  x4 t1 t2 s H locs ls h hP hS hl
    obtain ⟨g1, h⟩ := zg_some h
    refine z_iast X hA hP hS 1 0 (by decide) (zcM_1 _ _ _ _) rfl g1 dX7_stack_133 (fun H locs hP hS => ?_)
    refine lv_iconst (v := 0) hx hb dX7_stack_134 (by decide) ?_
    refine lv_istore (lv' := [(5, .int (0 : Int32)), (0, .ref (a 0)), (4, .int x4)]) hx hb dX7_stack_135 hl (by decide) rfl (fun ls hl => ?_)
    exact w137  zN (x4) ((0 : Int32)) ((zI s 1 (t1).toNatClampNeg t2)) _ _ _ h hP hS (lv_sub hl [1, 2, 0] rfl)
  have w85 : ∀  (x2 : Int32) (s : ZS) (H : Heap) (locs : List Loc) (ls : Array Slot), fX7_stack_85  x2 s = some (r, τ) → va_P D vwCl (zW (zcM a cI cJ cC) 17 a s) H → va_S (zF 17 a st.heap.size) st.heap H locs → lv_has ls 6 [(2, .int x2)] → W p l e rmX7_stack st m args below meth c H locs 0 0 (MQ below (va_Qi (fun (r' : Int32) (τ' : ZS) => r' = r ∧ τ' = τ) (zPost (zcM a cI cJ cC) 17 a D [(cI, .int), (cJ, .long), (cC, .char)]) (zF 17 a st.heap.size)) args st 0 0 (zF 17 a st.heap.size)) (F0 m 85 ls []) := by
    intro  x2 s H locs ls h hP hS hl
    refine lv_bipush (v := -100) hx hb dX7_stack_85 (by decide) ?_
    refine lv_iload_n hx hb dX7_stack_87 rfl (lv_at hl 0 rfl) ?_
    refine lv_isub hx hb dX7_stack_88 ?_
    exact z_iret X hP hS hr hlocks h dX7_stack_89
  have w76 : ∀  (x1 : Int32) (x2 : Int32) (x3 : Int32) (s : ZS) (H : Heap) (locs : List Loc) (ls : Array Slot), fX7_stack_76  x1 x2 x3 s = some (r, τ) → va_P D vwCl (zW (zcM a cI cJ cC) 17 a s) H → va_S (zF 17 a st.heap.size) st.heap H locs → lv_has ls 6 [(0, .ref (a 0)), (1, .int x1), (2, .int x2), (3, .int x3)] → W p l e rmX7_stack st m args below meth c H locs 0 0 (MQ below (va_Qi (fun (r' : Int32) (τ' : ZS) => r' = r ∧ τ' = τ) (zPost (zcM a cI cJ cC) 17 a D [(cI, .int), (cJ, .long), (cC, .char)]) (zF 17 a st.heap.size)) args st 0 0 (zF 17 a st.heap.size)) (F0 m 76 ls []) := by
    intro  x1 x2 x3 s H locs ls h hP hS hl
    refine lv_iload_n hx hb dX7_stack_76 rfl (lv_at hl 2 rfl) ?_
    refine lv_iload_n hx hb dX7_stack_77 rfl (lv_at hl 1 rfl) ?_
    refine lv_icmp_lt (tgt := 85) hx hb dX7_stack_78 (by decide) (fun c1 => ?_) (fun c1 => ?_)
    · have h := zif_t h c1
      exact w85   (x2) (s) _ _ _ h hP hS (lv_sub hl [2] rfl)
    · have h := zif_f h c1
      refine lv_iload_n hx hb dX7_stack_81 rfl (lv_at hl 1 rfl) ?_
      refine lv_if_ne (tgt := 90) hx hb dX7_stack_82 (by decide) (fun c2 => ?_) (fun c2 => ?_)
      · have h := zif_f h c2
        refine lv_aload_n hx hb dX7_stack_90 rfl (lv_at hl 0 rfl) ?_
        refine z_get (C := RX7) (T := TX7) (N := 26) X inX7 hP 0 (by decide) (zcM_0 _ _ _ _ _ _) rfl 0 (by decide) rfl (by decide +kernel) rfl dX7_stack_91 ?_
        refine lv_iconst (v := 1) hx hb dX7_stack_94 (by decide) ?_
        obtain ⟨g3, h⟩ := zg_some h
        refine z_iald X hP 1 0 (by decide) (zcM_1 _ _ _ _ _ _) rfl g3 dX7_stack_95 ?_
        refine lv_bipush (v := 6) hx hb dX7_stack_96 (by decide) ?_
        refine lv_icmp_ne (tgt := 104) hx hb dX7_stack_98 (by decide) (fun c4 => ?_) (fun c4 => ?_)
        · have h := zif_f h c4
          refine lv_bipush (v := 58) hx hb dX7_stack_104 (by decide) ?_
          refine lv_bipush (v := 7) hx hb dX7_stack_106 (by decide) ?_
          refine lv_aload_n hx hb dX7_stack_108 rfl (lv_at hl 0 rfl) ?_
          refine z_get (C := RX7) (T := TX7) (N := 26) X inX7 hP 0 (by decide) (zcM_0 _ _ _ _ _ _) rfl 0 (by decide) rfl (by decide +kernel) rfl dX7_stack_109 ?_
          refine lv_iconst (v := 1) hx hb dX7_stack_112 (by decide) ?_
          obtain ⟨g5, h⟩ := zg_some h
          refine z_iald X hP 1 0 (by decide) (zcM_1 _ _ _ _ _ _) rfl g5 dX7_stack_113 ?_
          refine lv_imul hx hb dX7_stack_114 ?_
          refine lv_iadd hx hb dX7_stack_115 ?_
          refine lv_istore (lv' := [(4, .int ((58 : Int32) + ((7 : Int32) * ((s).1 1 ((1 : Int32)).toNatClampNeg)))), (0, .ref (a 0)), (1, .int x1), (2, .int x2), (3, .int x3)]) hx hb dX7_stack_116 hl (by decide) rfl (fun ls hl => ?_)
          refine lv_aload_n hx hb dX7_stack_118 rfl (lv_at hl 1 rfl) ?_
          refine z_get (C := RX7) (T := TX7) (N := 26) X inX7 hP 0 (by decide) (zcM_0 _ _ _ _ _ _) rfl 0 (by decide) rfl (by decide +kernel) rfl dX7_stack_119 ?_
          refine lv_iload hx hb dX7_stack_122 (lv_at hl 0 rfl) ?_
          refine lv_iload_n hx hb dX7_stack_124 rfl (lv_at hl 4 rfl) ?_
          refine lv_if_eq (tgt := 132) hx hb dX7_stack_125 (by decide) (fun c6 => ?_) (fun c6 => ?_)
          · have h := zif_t h c6
            refine lv_iload_n hx hb dX7_stack_132 rfl (lv_at hl 2 rfl) ?_
            exact w133   (((58 : Int32) + ((7 : Int32) * ((s).1 1 ((1 : Int32)).toNatClampNeg)))) (((58 : Int32) + ((7 : Int32) * ((s).1 1 ((1 : Int32)).toNatClampNeg)))) (x1) (s) _ _ _ h hP hS (lv_sub hl [1, 0] rfl)
          · have h := zif_f h c6
            refine lv_iconst (v := 0) hx hb dX7_stack_128 (by decide) ?_
            refine lv_goto (tgt := 133) hx hb dX7_stack_129 (by decide) ?_
            exact w133   (((58 : Int32) + ((7 : Int32) * ((s).1 1 ((1 : Int32)).toNatClampNeg)))) (((58 : Int32) + ((7 : Int32) * ((s).1 1 ((1 : Int32)).toNatClampNeg)))) ((0 : Int32)) (s) _ _ _ h hP hS (lv_sub hl [1, 0] rfl)
        · have h := zif_t h c4
          refine lv_bipush (v := -4) hx hb dX7_stack_101 (by decide) ?_
          exact z_iret X hP hS hr hlocks h dX7_stack_103
      · have h := zif_t h c2
        exact w85   (x2) (s) _ _ _ h hP hS (lv_sub hl [2] rfl)
  have w39 : ∀  (n : Nat) (x1 : Int32) (x2 : Int32) (x3 : Int32) (s : ZS) (H : Heap) (locs : List Loc) (ls : Array Slot), fX7_stack_39n  n (x1, x2, x3, s) = some (r, τ) → va_P D vwCl (zW (zcM a cI cJ cC) 17 a s) H → va_S (zF 17 a st.heap.size) st.heap H locs → lv_has ls 6 [(0, .ref (a 0)), (1, .int x1), (2, .int x2), (3, .int x3)] → W p l e rmX7_stack st m args below meth c H locs 0 0 (MQ below (va_Qi (fun (r' : Int32) (τ' : ZS) => r' = r ∧ τ' = τ) (zPost (zcM a cI cJ cC) 17 a D [(cI, .int), (cJ, .long), (cC, .char)]) (zF 17 a st.heap.size)) args st 0 0 (zF 17 a st.heap.size)) (F0 m 39 ls []) := by
    intro  n
    induction n with
    | zero => intro x1 x2 x3 s H locs ls h; exact zloop_0 h
    | succ n ih =>
      intro x1 x2 x3 s H locs ls h hP hS hl
      have h : fX7_stack_39b  (fun x1 x2 x3 s => fX7_stack_39n  n (x1, x2, x3, s)) x1 x2 x3 s = some (r, τ) := h
      refine lv_iload_n hx hb dX7_stack_39 rfl (lv_at hl 3 rfl) ?_
      refine lv_if_ne (tgt := 76) hx hb dX7_stack_40 (by decide) (fun c1 => ?_) (fun c1 => ?_)
      · have h := zif_f h c1
        exact w76   (x1) (x2) (x3) (s) _ _ _ h hP hS (lv_sub hl [0, 1, 2, 3] rfl)
      · have h := zif_t h c1
        refine lv_iload_n hx hb dX7_stack_43 rfl (lv_at hl 2 rfl) ?_
        refine lv_iload_n hx hb dX7_stack_44 rfl (lv_at hl 1 rfl) ?_
        refine lv_icmp_ge (tgt := 76) hx hb dX7_stack_45 (by decide) (fun c2 => ?_) (fun c2 => ?_)
        · have h := zif_t h c2
          exact w76   (x1) (x2) (x3) (s) _ _ _ h hP hS (lv_sub hl [0, 1, 2, 3] rfl)
        · have h := zif_f h c2
          refine lv_iload_n hx hb dX7_stack_48 rfl (lv_at hl 2 rfl) ?_
          refine lv_bipush (v := 6) hx hb dX7_stack_49 (by decide) ?_
          refine lv_icmp_ge (tgt := 76) hx hb dX7_stack_51 (by decide) (fun c3 => ?_) (fun c3 => ?_)
          · have h := zif_t h c3
            exact w76   (x1) (x2) (x3) (s) _ _ _ h hP hS (lv_sub hl [0, 1, 2, 3] rfl)
          · have h := zif_f h c3
            refine lv_aload_n hx hb dX7_stack_54 rfl (lv_at hl 0 rfl) ?_
            refine lv_aload_n hx hb dX7_stack_55 rfl (lv_at hl 0 rfl) ?_
            refine z_get (C := RX7) (T := TX7) (N := 26) X inX7 hP 0 (by decide) (zcM_0 _ _ _ _ _ _) rfl 7 (by decide) rfl (by decide +kernel) rfl dX7_stack_56 ?_
            refine lv_iload_n hx hb dX7_stack_59 rfl (lv_at hl 2 rfl) ?_
            obtain ⟨g4, h⟩ := zg_some h
            refine z_iald X hP 6 0 (by decide) (zcM_6 _ _ _ _ _ _) rfl g4 dX7_stack_60 ?_
            refine lv_bipush (v := 97) hx hb dX7_stack_61 (by decide) ?_
            refine lv_isub hx hb dX7_stack_63 ?_
            obtain ⟨u5, s5, e5, h⟩ := zb_some h
            refine z_calli hS (z_runV (As := [.int (((s).1 6 (x2).toNatClampNeg) - (97 : Int32))]) (rest := []) X hG hA hE hP hS 0 (kX7_isSheet (l := l) (D := D) (a := a) (cI := cI) (cJ := cJ) (cC := cC) e5 _) (cwV 1 hts gX7_stack_X7_isSheet rfl rfl rfl (by decide +kernel) ⟨Nat.le_of_ble_eq_true rfl, Nat.le_of_ble_eq_true rfl⟩) (by decide) (zcM_0 _ _ _ _ _ _) rfl rfl rfl hl.1 rfl (Nat.le_of_ble_eq_true rfl) dX7_stack_64) (fun H locs hP hS => ?_)
            refine lv_if_eq (tgt := 76) hx hb dX7_stack_67 (by decide) (fun c6 => ?_) (fun c6 => ?_)
            · have h := zif_t h c6
              exact w76   (x1) (x2) (x3) (s5) _ _ _ h hP hS (lv_sub hl [0, 1, 2, 3] rfl)
            · have h := zif_f h c6
              refine lv_iinc (v := (x2 + (1 : Int32))) (lv' := [(2, .int (x2 + (1 : Int32))), (0, .ref (a 0)), (1, .int x1), (3, .int x3)]) hx hb dX7_stack_70 hl (k := 2) rfl rfl (by decide) rfl (fun ls hl => ?_)
              refine lv_goto (tgt := 39) hx hb dX7_stack_73 (by decide) ?_
              exact ih (x1) ((x2 + (1 : Int32))) (x3) (s5) _ _ _ h hP hS (lv_sub hl [1, 2, 0, 3] rfl)
  have w32 : ∀  (x1 : Int32) (x2 : Int32) (t0 : Int32) (s : ZS) (H : Heap) (locs : List Loc) (ls : Array Slot), fX7_stack_32  x1 x2 t0 s = some (r, τ) → va_P D vwCl (zW (zcM a cI cJ cC) 17 a s) H → va_S (zF 17 a st.heap.size) st.heap H locs → lv_has ls 6 [(0, .ref (a 0)), (1, .int x1), (2, .int x2)] → W p l e rmX7_stack st m args below meth c H locs 0 0 (MQ below (va_Qi (fun (r' : Int32) (τ' : ZS) => r' = r ∧ τ' = τ) (zPost (zcM a cI cJ cC) 17 a D [(cI, .int), (cJ, .long), (cC, .char)]) (zF 17 a st.heap.size)) args st 0 0 (zF 17 a st.heap.size)) (F0 m 32 ls [.int t0]) := by
    intro  x1 x2 t0 s H locs ls h hP hS hl
    refine lv_istore_n (lv' := [(3, .int t0), (0, .ref (a 0)), (1, .int x1), (2, .int x2)]) hx hb dX7_stack_32 rfl hl (by decide) rfl (fun ls hl => ?_)
    refine lv_iload_n hx hb dX7_stack_33 rfl (lv_at hl 0 rfl) ?_
    refine lv_if_eq (tgt := 39) hx hb dX7_stack_34 (by decide) (fun c1 => ?_) (fun c1 => ?_)
    · have h := zif_t h c1
      exact w39  zN (x1) (x2) (t0) (s) _ _ _ h hP hS (lv_sub hl [1, 2, 3, 0] rfl)
    · have h := zif_f h c1
      refine lv_iconst (v := 1) hx hb dX7_stack_37 (by decide) ?_
      refine lv_istore_n (lv' := [(2, .int (1 : Int32)), (3, .int t0), (0, .ref (a 0)), (1, .int x1)]) hx hb dX7_stack_38 rfl hl (by decide) rfl (fun ls hl => ?_)
      exact w39  zN (x1) ((1 : Int32)) (t0) (s) _ _ _ h hP hS (lv_sub hl [2, 3, 0, 1] rfl)
  have w31 : ∀ (k32 : Int32 → Int32 → Int32 → ZS → Option (Int32 × ZS)) (hk32 : ∀ (x1 : Int32) (x2 : Int32) (t0 : Int32) (s : ZS) (H : Heap) (locs : List Loc) (ls : Array Slot), k32 x1 x2 t0 s = some (r, τ) → va_P D vwCl (zW (zcM a cI cJ cC) 17 a s) H → va_S (zF 17 a st.heap.size) st.heap H locs → lv_has ls 6 [(0, .ref (a 0)), (1, .int x1), (2, .int x2)] → W p l e rmX7_stack st m args below meth c H locs 0 0 (MQ below (va_Qi (fun (r' : Int32) (τ' : ZS) => r' = r ∧ τ' = τ) (zPost (zcM a cI cJ cC) 17 a D [(cI, .int), (cJ, .long), (cC, .char)]) (zF 17 a st.heap.size)) args st 0 0 (zF 17 a st.heap.size)) (F0 m 32 ls [.int t0])) (x1 : Int32) (x2 : Int32) (s : ZS) (H : Heap) (locs : List Loc) (ls : Array Slot), fX7_stack_31 k32 x1 x2 s = some (r, τ) → va_P D vwCl (zW (zcM a cI cJ cC) 17 a s) H → va_S (zF 17 a st.heap.size) st.heap H locs → lv_has ls 6 [(0, .ref (a 0)), (1, .int x1), (2, .int x2)] → W p l e rmX7_stack st m args below meth c H locs 0 0 (MQ below (va_Qi (fun (r' : Int32) (τ' : ZS) => r' = r ∧ τ' = τ) (zPost (zcM a cI cJ cC) 17 a D [(cI, .int), (cJ, .long), (cC, .char)]) (zF 17 a st.heap.size)) args st 0 0 (zF 17 a st.heap.size)) (F0 m 31 ls []) := by
    intro k32 hk32 x1 x2 s H locs ls h hP hS hl
    refine lv_iconst (v := 0) hx hb dX7_stack_31 (by decide) ?_
    exact hk32 (x1) (x2) ((0 : Int32)) (s) _ _ _ h hP hS (lv_sub hl [0, 1, 2] rfl)
  have hl : lv_has ls 6 [(0, .ref (a 0))] := hl
  refine lv_aload_n hx hb dX7_stack_0 rfl (lv_at hl 0 rfl) ?_
  refine z_get (C := RX7) (T := TX7) (N := 26) X inX7 hP 0 (by decide) (zcM_0 _ _ _ _ _ _) rfl 8 (by decide) rfl (by decide +kernel) rfl dX7_stack_1 ?_
  refine lv_istore_n (lv' := [(1, .int ((s).1 0 8)), (0, .ref (a 0))]) hx hb dX7_stack_4 rfl hl (by decide) rfl (fun ls hl => ?_)
  refine lv_aload_n hx hb dX7_stack_5 rfl (lv_at hl 1 rfl) ?_
  refine lv_iconst (v := 0) hx hb dX7_stack_6 (by decide) ?_
  refine z_put (ty := .int) (x := (0 : Int32)) (C := RX7) (T := TX7) (N := 26) X inX7 tyX7 tyX7_ok nmX7 hA hP hS 0 (by decide) (zcM_0 _ _ _ _ _ _) rfl 8 (by decide) rfl (by decide +kernel) rfl (by decide +kernel) rfl rfl (Nat.le_of_ble_eq_true rfl) rfl dX7_stack_7 (fun H locs hP hS => ?_)
  refine lv_iconst (v := 0) hx hb dX7_stack_10 (by decide) ?_
  refine lv_istore_n (lv' := [(2, .int (0 : Int32)), (1, .int ((s).1 0 8)), (0, .ref (a 0))]) hx hb dX7_stack_11 rfl hl (by decide) rfl (fun ls hl => ?_)
  refine lv_iload_n hx hb dX7_stack_12 rfl (lv_at hl 1 rfl) ?_
  refine lv_if_le (tgt := 31) hx hb dX7_stack_13 (by decide) (fun c1 => ?_) (fun c1 => ?_)
  · have h := zif_t h c1
    exact w31 fX7_stack_32 (fun x1 x2 t0 s H locs ls h hP hS hl => w32   x1 x2 t0 s H locs ls h hP hS hl)  (((s).1 0 8)) ((0 : Int32)) ((zI s 0 8 (0 : Int32))) _ _ _ h hP hS (lv_sub hl [2, 1, 0] rfl)
  · have h := zif_f h c1
    refine lv_aload_n hx hb dX7_stack_16 rfl (lv_at hl 2 rfl) ?_
    refine z_get (C := RX7) (T := TX7) (N := 26) X inX7 hP 0 (by decide) (zcM_0 _ _ _ _ _ _) rfl 7 (by decide) rfl (by decide +kernel) rfl dX7_stack_17 ?_
    refine lv_iconst (v := 0) hx hb dX7_stack_20 (by decide) ?_
    obtain ⟨g2, h⟩ := zg_some h
    refine z_iald X hP 6 0 (by decide) (zcM_6 _ _ _ _ _ _) rfl g2 dX7_stack_21 ?_
    refine lv_bipush (v := 45) hx hb dX7_stack_22 (by decide) ?_
    refine lv_icmp_ne (tgt := 31) hx hb dX7_stack_24 (by decide) (fun c3 => ?_) (fun c3 => ?_)
    · have h := zif_f h c3
      exact w31 fX7_stack_32 (fun x1 x2 t0 s H locs ls h hP hS hl => w32   x1 x2 t0 s H locs ls h hP hS hl)  (((s).1 0 8)) ((0 : Int32)) ((zI s 0 8 (0 : Int32))) _ _ _ h hP hS (lv_sub hl [2, 1, 0] rfl)
    · have h := zif_t h c3
      refine lv_iconst (v := 1) hx hb dX7_stack_27 (by decide) ?_
      refine lv_goto (tgt := 32) hx hb dX7_stack_28 (by decide) ?_
      exact w32   (((s).1 0 8)) ((0 : Int32)) ((1 : Int32)) ((zI s 0 8 (0 : Int32))) _ _ _ h hP hS (lv_sub hl [2, 1, 0] rfl)
abbrev rmX7_lay : Room := { frames := 2, cells := 0, slots := 0, locals := 46 }
set_option maxHeartbeats 4000000 in
set_option maxRecDepth 100000 in
theorem kX7_lay {l : Launch} {D : va_G} {a : Nat → Nat} {cI cJ cC : ClassId} {x1 : Int32} {x2 : Int32} {s τ : ZS} {r : Int32} (h : fX7_lay x1 x2 s = some (r, τ)) : zMi (zcM a cI cJ cC) 17 a D [(cI, .int), (cJ, .long), (cC, .char)] zEM l yX7_lay wsX7_lay rmX7_lay [.ref (a 0), .int x1, .int x2] s r τ := by
  refine z_start (cc := cX7_lay) (maxL := 3) (ret := (some .int)) RX7 rfl (by decide) rfl (Nat.le_of_ble_eq_true rfl) ?_
  intro p e st m args below meth c ls H locs X hr hlocks hA hE hP hS hl
  obtain ⟨hx, hb, hml, hown, hts, -⟩ := id X
  have hG := zEM_good
  have inX7 : ∀ w ∈ u_ws RX7 TX7 26, w ∈ wsX7_lay := by decide +kernel
  have hl : lv_has ls 3 [(0, .ref (a 0)), (1, .int x1), (2, .int x2)] := hl
  refine lv_aload_n hx hb dX7_lay_0 rfl (lv_at hl 0 rfl) ?_
  refine lv_iload_n hx hb dX7_lay_1 rfl (lv_at hl 1 rfl) ?_
  obtain ⟨u1, s1, e1, h⟩ := zb_some h
  refine z_calli hS (z_runV (As := [.int x1]) (rest := []) X hG hA hE hP hS 0 (kX7_isStack (l := l) (D := D) (a := a) (cI := cI) (cJ := cJ) (cC := cC) e1 _) (cwV 1 hts gX7_lay_X7_isStack rfl rfl rfl (by decide +kernel) ⟨Nat.le_of_ble_eq_true rfl, Nat.le_of_ble_eq_true rfl⟩) (by decide) (zcM_0 _ _ _ _ _ _) rfl rfl rfl hl.1 rfl (Nat.le_of_ble_eq_true rfl) dX7_lay_2) (fun H locs hP hS => ?_)
  refine lv_if_eq (tgt := 16) hx hb dX7_lay_5 (by decide) (fun c2 => ?_) (fun c2 => ?_)
  · have h := zif_t h c2
    refine lv_iconst (v := -1) hx hb dX7_lay_16 (by decide) ?_
    exact z_iret X hP hS hr hlocks h dX7_lay_17
  · have h := zif_f h c2
    refine lv_aload_n hx hb dX7_lay_8 rfl (lv_at hl 0 rfl) ?_
    refine lv_iload_n hx hb dX7_lay_9 rfl (lv_at hl 2 rfl) ?_
    obtain ⟨u3, s3, e3, h⟩ := zb_some h
    refine z_calli hS (z_runV (As := [.int x2]) (rest := []) X hG hA hE hP hS 0 (kX7_isSheet (l := l) (D := D) (a := a) (cI := cI) (cJ := cJ) (cC := cC) e3 _) (cwV 1 hts gX7_lay_X7_isSheet rfl rfl rfl (by decide +kernel) ⟨Nat.le_of_ble_eq_true rfl, Nat.le_of_ble_eq_true rfl⟩) (by decide) (zcM_0 _ _ _ _ _ _) rfl rfl rfl hl.1 rfl (Nat.le_of_ble_eq_true rfl) dX7_lay_10) (fun H locs hP hS => ?_)
    refine lv_if_ne (tgt := 18) hx hb dX7_lay_13 (by decide) (fun c4 => ?_) (fun c4 => ?_)
    · have h := zif_f h c4
      refine lv_aload_n hx hb dX7_lay_18 rfl (lv_at hl 0 rfl) ?_
      refine lv_iload_n hx hb dX7_lay_19 rfl (lv_at hl 1 rfl) ?_
      obtain ⟨u5, s5, e5, h⟩ := zb_some h
      refine z_calli hS (z_runV (As := [.int x1]) (rest := []) X hG hA hE hP hS 0 (kX7_size (l := l) (D := D) (a := a) (cI := cI) (cJ := cJ) (cC := cC) e5 _) (cwV 1 hts gX7_lay_X7_size rfl rfl rfl (by decide +kernel) ⟨Nat.le_of_ble_eq_true rfl, Nat.le_of_ble_eq_true rfl⟩) (by decide) (zcM_0 _ _ _ _ _ _) rfl rfl rfl hl.1 rfl (Nat.le_of_ble_eq_true rfl) dX7_lay_20) (fun H locs hP hS => ?_)
      refine lv_bipush (v := 6) hx hb dX7_lay_23 (by decide) ?_
      refine lv_icmp_ne (tgt := 31) hx hb dX7_lay_25 (by decide) (fun c6 => ?_) (fun c6 => ?_)
      · have h := zif_f h c6
        refine lv_aload_n hx hb dX7_lay_31 rfl (lv_at hl 0 rfl) ?_
        refine z_get (C := RX7) (T := TX7) (N := 26) X inX7 hP 0 (by decide) (zcM_0 _ _ _ _ _ _) rfl 0 (by decide) rfl (by decide +kernel) rfl dX7_lay_32 ?_
        refine lv_bipush (v := 58) hx hb dX7_lay_35 (by decide) ?_
        refine lv_bipush (v := 7) hx hb dX7_lay_37 (by decide) ?_
        refine lv_iload_n hx hb dX7_lay_39 rfl (lv_at hl 1 rfl) ?_
        refine lv_imul hx hb dX7_lay_40 ?_
        refine lv_iadd hx hb dX7_lay_41 ?_
        refine lv_iconst (v := 1) hx hb dX7_lay_42 (by decide) ?_
        refine lv_iadd hx hb dX7_lay_43 ?_
        refine lv_aload_n hx hb dX7_lay_44 rfl (lv_at hl 0 rfl) ?_
        refine lv_iload_n hx hb dX7_lay_45 rfl (lv_at hl 1 rfl) ?_
        obtain ⟨u7, s7, e7, h⟩ := zb_some h
        refine z_calli hS (z_runV (As := [.int x1]) (rest := [.int (((58 : Int32) + ((7 : Int32) * x1)) + (1 : Int32)), .ref (a 1)]) X hG hA hE hP hS 0 (kX7_size (l := l) (D := D) (a := a) (cI := cI) (cJ := cJ) (cC := cC) e7 _) (cwV 1 hts gX7_lay_X7_size rfl rfl rfl (by decide +kernel) ⟨Nat.le_of_ble_eq_true rfl, Nat.le_of_ble_eq_true rfl⟩) (by decide) (zcM_0 _ _ _ _ _ _) rfl rfl rfl hl.1 rfl (Nat.le_of_ble_eq_true rfl) dX7_lay_46) (fun H locs hP hS => ?_)
        refine lv_iadd hx hb dX7_lay_49 ?_
        refine lv_iload_n hx hb dX7_lay_50 rfl (lv_at hl 2 rfl) ?_
        obtain ⟨g8, h⟩ := zg_some h
        refine z_iast X hA hP hS 1 0 (by decide) (zcM_1 _ _ _ _) rfl g8 dX7_lay_51 (fun H locs hP hS => ?_)
        refine lv_aload_n hx hb dX7_lay_52 rfl (lv_at hl 0 rfl) ?_
        refine z_get (C := RX7) (T := TX7) (N := 26) X inX7 hP 0 (by decide) (zcM_0 _ _ _ _ _ _) rfl 0 (by decide) rfl (by decide +kernel) rfl dX7_lay_53 ?_
        refine lv_bipush (v := 58) hx hb dX7_lay_56 (by decide) ?_
        refine lv_bipush (v := 7) hx hb dX7_lay_58 (by decide) ?_
        refine lv_iload_n hx hb dX7_lay_60 rfl (lv_at hl 1 rfl) ?_
        refine lv_imul hx hb dX7_lay_61 ?_
        refine lv_iadd hx hb dX7_lay_62 ?_
        refine lv_dup2_11 hx hb dX7_lay_63 rfl rfl ?_
        obtain ⟨g9, h⟩ := zg_some h
        refine z_iald X hP 1 0 (by decide) (zcM_1 _ _ _ _ _ _) rfl g9 dX7_lay_64 ?_
        refine lv_iconst (v := 1) hx hb dX7_lay_65 (by decide) ?_
        refine lv_iadd hx hb dX7_lay_66 ?_
        obtain ⟨g10, h⟩ := zg_some h
        refine z_iast X hA hP hS 1 0 (by decide) (zcM_1 _ _ _ _) rfl g10 dX7_lay_67 (fun H locs hP hS => ?_)
        refine lv_aload_n hx hb dX7_lay_68 rfl (lv_at hl 0 rfl) ?_
        refine lv_iload_n hx hb dX7_lay_69 rfl (lv_at hl 1 rfl) ?_
        obtain ⟨u11, s11, e11, h⟩ := zb_some h
        refine z_calli hS (z_runV (As := [.int x1]) (rest := []) X hG hA hE hP hS 0 (kX7_size (l := l) (D := D) (a := a) (cI := cI) (cJ := cJ) (cC := cC) e11 _) (cwV 1 hts gX7_lay_X7_size rfl rfl rfl (by decide +kernel) ⟨Nat.le_of_ble_eq_true rfl, Nat.le_of_ble_eq_true rfl⟩) (by decide) (zcM_0 _ _ _ _ _ _) rfl rfl rfl hl.1 rfl (Nat.le_of_ble_eq_true rfl) dX7_lay_70) (fun H locs hP hS => ?_)
        exact z_iret X hP hS hr hlocks h dX7_lay_73
      · have h := zif_t h c6
        refine lv_bipush (v := -4) hx hb dX7_lay_28 (by decide) ?_
        exact z_iret X hP hS hr hlocks h dX7_lay_30
    · have h := zif_t h c4
      refine lv_iconst (v := -1) hx hb dX7_lay_16 (by decide) ?_
      exact z_iret X hP hS hr hlocks h dX7_lay_17
abbrev rmX7_take : Room := { frames := 2, cells := 0, slots := 0, locals := 46 }
set_option maxHeartbeats 4000000 in
set_option maxRecDepth 100000 in
theorem kX7_take {l : Launch} {D : va_G} {a : Nat → Nat} {cI cJ cC : ClassId} {x1 : Int32} {s τ : ZS} {r : Int32} (h : fX7_take x1 s = some (r, τ)) : zMi (zcM a cI cJ cC) 17 a D [(cI, .int), (cJ, .long), (cC, .char)] zEM l yX7_take wsX7_take rmX7_take [.ref (a 0), .int x1] s r τ := by
  refine z_start (cc := cX7_take) (maxL := 2) (ret := (some .int)) RX7 rfl (by decide) rfl (Nat.le_of_ble_eq_true rfl) ?_
  intro p e st m args below meth c ls H locs X hr hlocks hA hE hP hS hl
  obtain ⟨hx, hb, hml, hown, hts, -⟩ := id X
  have hG := zEM_good
  have inX7 : ∀ w ∈ u_ws RX7 TX7 26, w ∈ wsX7_take := by decide +kernel
  have hl : lv_has ls 2 [(0, .ref (a 0)), (1, .int x1)] := hl
  refine lv_aload_n hx hb dX7_take_0 rfl (lv_at hl 0 rfl) ?_
  refine lv_iload_n hx hb dX7_take_1 rfl (lv_at hl 1 rfl) ?_
  obtain ⟨u1, s1, e1, h⟩ := zb_some h
  refine z_calli hS (z_runV (As := [.int x1]) (rest := []) X hG hA hE hP hS 0 (kX7_isStack (l := l) (D := D) (a := a) (cI := cI) (cJ := cJ) (cC := cC) e1 _) (cwV 1 hts gX7_take_X7_isStack rfl rfl rfl (by decide +kernel) ⟨Nat.le_of_ble_eq_true rfl, Nat.le_of_ble_eq_true rfl⟩) (by decide) (zcM_0 _ _ _ _ _ _) rfl rfl rfl hl.1 rfl (Nat.le_of_ble_eq_true rfl) dX7_take_2) (fun H locs hP hS => ?_)
  refine lv_if_ne (tgt := 10) hx hb dX7_take_5 (by decide) (fun c2 => ?_) (fun c2 => ?_)
  · have h := zif_f h c2
    refine lv_aload_n hx hb dX7_take_10 rfl (lv_at hl 0 rfl) ?_
    refine lv_iload_n hx hb dX7_take_11 rfl (lv_at hl 1 rfl) ?_
    obtain ⟨u3, s3, e3, h⟩ := zb_some h
    refine z_calli hS (z_runV (As := [.int x1]) (rest := []) X hG hA hE hP hS 0 (kX7_size (l := l) (D := D) (a := a) (cI := cI) (cJ := cJ) (cC := cC) e3 _) (cwV 1 hts gX7_take_X7_size rfl rfl rfl (by decide +kernel) ⟨Nat.le_of_ble_eq_true rfl, Nat.le_of_ble_eq_true rfl⟩) (by decide) (zcM_0 _ _ _ _ _ _) rfl rfl rfl hl.1 rfl (Nat.le_of_ble_eq_true rfl) dX7_take_12) (fun H locs hP hS => ?_)
    refine lv_if_ne (tgt := 21) hx hb dX7_take_15 (by decide) (fun c4 => ?_) (fun c4 => ?_)
    · have h := zif_f h c4
      refine lv_aload_n hx hb dX7_take_21 rfl (lv_at hl 0 rfl) ?_
      refine z_get (C := RX7) (T := TX7) (N := 26) X inX7 hP 0 (by decide) (zcM_0 _ _ _ _ _ _) rfl 0 (by decide) rfl (by decide +kernel) rfl dX7_take_22 ?_
      refine lv_bipush (v := 58) hx hb dX7_take_25 (by decide) ?_
      refine lv_bipush (v := 7) hx hb dX7_take_27 (by decide) ?_
      refine lv_iload_n hx hb dX7_take_29 rfl (lv_at hl 1 rfl) ?_
      refine lv_imul hx hb dX7_take_30 ?_
      refine lv_iadd hx hb dX7_take_31 ?_
      refine lv_dup2_11 hx hb dX7_take_32 rfl rfl ?_
      obtain ⟨g5, h⟩ := zg_some h
      refine z_iald X hP 1 0 (by decide) (zcM_1 _ _ _ _ _ _) rfl g5 dX7_take_33 ?_
      refine lv_iconst (v := 1) hx hb dX7_take_34 (by decide) ?_
      refine lv_isub hx hb dX7_take_35 ?_
      obtain ⟨g6, h⟩ := zg_some h
      refine z_iast X hA hP hS 1 0 (by decide) (zcM_1 _ _ _ _) rfl g6 dX7_take_36 (fun H locs hP hS => ?_)
      refine lv_aload_n hx hb dX7_take_37 rfl (lv_at hl 0 rfl) ?_
      refine lv_iload_n hx hb dX7_take_38 rfl (lv_at hl 1 rfl) ?_
      refine lv_aload_n hx hb dX7_take_39 rfl (lv_at hl 0 rfl) ?_
      refine lv_iload_n hx hb dX7_take_40 rfl (lv_at hl 1 rfl) ?_
      obtain ⟨u7, s7, e7, h⟩ := zb_some h
      refine z_calli hS (z_runV (As := [.int x1]) (rest := [.int x1, .ref (a 0)]) X hG hA hE hP hS 0 (kX7_size (l := l) (D := D) (a := a) (cI := cI) (cJ := cJ) (cC := cC) e7 _) (cwV 1 hts gX7_take_X7_size rfl rfl rfl (by decide +kernel) ⟨Nat.le_of_ble_eq_true rfl, Nat.le_of_ble_eq_true rfl⟩) (by decide) (zcM_0 _ _ _ _ _ _) rfl rfl rfl hl.1 rfl (Nat.le_of_ble_eq_true rfl) dX7_take_41) (fun H locs hP hS => ?_)
      obtain ⟨u8, s8, e8, h⟩ := zb_some h
      refine z_calli hS (z_runV (As := [.int x1, .int u7]) (rest := []) X hG hA hE hP hS 0 (kX7_laid (l := l) (D := D) (a := a) (cI := cI) (cJ := cJ) (cC := cC) e8 _) (cwV 2 hts gX7_take_X7_laid rfl rfl rfl (by decide +kernel) ⟨Nat.le_of_ble_eq_true rfl, Nat.le_of_ble_eq_true rfl⟩) (by decide) (zcM_0 _ _ _ _ _ _) rfl rfl rfl hl.1 rfl (Nat.le_of_ble_eq_true rfl) dX7_take_44) (fun H locs hP hS => ?_)
      exact z_iret X hP hS hr hlocks h dX7_take_47
    · have h := zif_t h c4
      refine lv_bipush (v := -3) hx hb dX7_take_18 (by decide) ?_
      exact z_iret X hP hS hr hlocks h dX7_take_20
  · have h := zif_t h c2
    refine lv_iconst (v := -1) hx hb dX7_take_8 (by decide) ?_
    exact z_iret X hP hS hr hlocks h dX7_take_9
abbrev rmX7_at : Room := { frames := 2, cells := 0, slots := 0, locals := 46 }
set_option maxHeartbeats 4000000 in
set_option maxRecDepth 100000 in
theorem kX7_at {l : Launch} {D : va_G} {a : Nat → Nat} {cI cJ cC : ClassId} {x1 : Int32} {x2 : Int32} {s τ : ZS} {r : Int32} (h : fX7_at x1 x2 s = some (r, τ)) : zMi (zcM a cI cJ cC) 17 a D [(cI, .int), (cJ, .long), (cC, .char)] zEM l yX7_at wsX7_at rmX7_at [.ref (a 0), .int x1, .int x2] s r τ := by
  refine z_start (cc := cX7_at) (maxL := 3) (ret := (some .int)) RX7 rfl (by decide) rfl (Nat.le_of_ble_eq_true rfl) ?_
  intro p e st m args below meth c ls H locs X hr hlocks hA hE hP hS hl
  obtain ⟨hx, hb, hml, hown, hts, -⟩ := id X
  have hG := zEM_good
  have hl : lv_has ls 3 [(0, .ref (a 0)), (1, .int x1), (2, .int x2)] := hl
  refine lv_aload_n hx hb dX7_at_0 rfl (lv_at hl 0 rfl) ?_
  refine lv_iload_n hx hb dX7_at_1 rfl (lv_at hl 1 rfl) ?_
  obtain ⟨u1, s1, e1, h⟩ := zb_some h
  refine z_calli hS (z_runV (As := [.int x1]) (rest := []) X hG hA hE hP hS 0 (kX7_isStack (l := l) (D := D) (a := a) (cI := cI) (cJ := cJ) (cC := cC) e1 _) (cwV 1 hts gX7_at_X7_isStack rfl rfl rfl (by decide +kernel) ⟨Nat.le_of_ble_eq_true rfl, Nat.le_of_ble_eq_true rfl⟩) (by decide) (zcM_0 _ _ _ _ _ _) rfl rfl rfl hl.1 rfl (Nat.le_of_ble_eq_true rfl) dX7_at_2) (fun H locs hP hS => ?_)
  refine lv_if_eq (tgt := 27) hx hb dX7_at_5 (by decide) (fun c2 => ?_) (fun c2 => ?_)
  · have h := zif_t h c2
    refine lv_iconst (v := -1) hx hb dX7_at_27 (by decide) ?_
    exact z_iret X hP hS hr hlocks h dX7_at_28
  · have h := zif_f h c2
    refine lv_iload_n hx hb dX7_at_8 rfl (lv_at hl 2 rfl) ?_
    refine lv_i2l hx hb dX7_at_9 rfl ?_
    refine lv_ldc2 (own := RX7) (index := 172) (v := -1) hx hb hown (hts _ (by decide +kernel)) dX7_at_10 ?_
    refine lv_aload_n hx hb dX7_at_13 rfl (lv_at hl 0 rfl) ?_
    refine lv_iload_n hx hb dX7_at_14 rfl (lv_at hl 1 rfl) ?_
    obtain ⟨u3, s3, e3, h⟩ := zb_some h
    refine z_calli hS (z_runV (As := [.int x1]) (rest := [.long (-1 : Int64), .long (x2).toInt64]) X hG hA hE hP hS 0 (kX7_size (l := l) (D := D) (a := a) (cI := cI) (cJ := cJ) (cC := cC) e3 _) (cwV 1 hts gX7_at_X7_size rfl rfl rfl (by decide +kernel) ⟨Nat.le_of_ble_eq_true rfl, Nat.le_of_ble_eq_true rfl⟩) (by decide) (zcM_0 _ _ _ _ _ _) rfl rfl rfl hl.1 rfl (Nat.le_of_ble_eq_true rfl) dX7_at_15) (fun H locs hP hS => ?_)
    refine lv_iconst (v := 1) hx hb dX7_at_18 (by decide) ?_
    refine lv_isub hx hb dX7_at_19 ?_
    refine lv_i2l hx hb dX7_at_20 rfl ?_
    obtain ⟨u4, s4, e4, h⟩ := zb_some h
    refine z_calli hS (z_runS (As := [.long (x2).toInt64, .long (-1 : Int64), .long ((u3 - (1 : Int32))).toInt64]) (rest := []) X hG hA hE hP hS (kX7_isIn (l := l) (D := D) (a := a) (cI := cI) (cJ := cJ) (cC := cC) e4 _) (va_cwS 3 hts gX7_at_X7_isIn rfl rfl rfl (by decide +kernel) ⟨Nat.le_of_ble_eq_true rfl, Nat.le_of_ble_eq_true rfl⟩) rfl hl.1 rfl (Nat.le_of_ble_eq_true rfl) dX7_at_21) (fun H locs hP hS => ?_)
    refine lv_if_ne (tgt := 29) hx hb dX7_at_24 (by decide) (fun c5 => ?_) (fun c5 => ?_)
    · have h := zif_f h c5
      refine lv_iload_n hx hb dX7_at_29 rfl (lv_at hl 2 rfl) ?_
      refine lv_if_ge (tgt := 41) hx hb dX7_at_30 (by decide) (fun c6 => ?_) (fun c6 => ?_)
      · have h := zif_t h c6
        refine lv_aload_n hx hb dX7_at_41 rfl (lv_at hl 0 rfl) ?_
        refine lv_iload_n hx hb dX7_at_42 rfl (lv_at hl 1 rfl) ?_
        refine lv_iload_n hx hb dX7_at_43 rfl (lv_at hl 2 rfl) ?_
        obtain ⟨u7, s7, e7, h⟩ := zb_some h
        refine z_calli hS (z_runV (As := [.int x1, .int x2]) (rest := []) X hG hA hE hP hS 0 (kX7_laid (l := l) (D := D) (a := a) (cI := cI) (cJ := cJ) (cC := cC) e7 _) (cwV 2 hts gX7_at_X7_laid rfl rfl rfl (by decide +kernel) ⟨Nat.le_of_ble_eq_true rfl, Nat.le_of_ble_eq_true rfl⟩) (by decide) (zcM_0 _ _ _ _ _ _) rfl rfl rfl hl.1 rfl (Nat.le_of_ble_eq_true rfl) dX7_at_44) (fun H locs hP hS => ?_)
        exact z_iret X hP hS hr hlocks h dX7_at_47
      · have h := zif_f h c6
        refine lv_aload_n hx hb dX7_at_33 rfl (lv_at hl 0 rfl) ?_
        refine lv_iload_n hx hb dX7_at_34 rfl (lv_at hl 1 rfl) ?_
        obtain ⟨u8, s8, e8, h⟩ := zb_some h
        refine z_calli hS (z_runV (As := [.int x1]) (rest := []) X hG hA hE hP hS 0 (kX7_size (l := l) (D := D) (a := a) (cI := cI) (cJ := cJ) (cC := cC) e8 _) (cwV 1 hts gX7_at_X7_size rfl rfl rfl (by decide +kernel) ⟨Nat.le_of_ble_eq_true rfl, Nat.le_of_ble_eq_true rfl⟩) (by decide) (zcM_0 _ _ _ _ _ _) rfl rfl rfl hl.1 rfl (Nat.le_of_ble_eq_true rfl) dX7_at_35) (fun H locs hP hS => ?_)
        refine lv_goto (tgt := 47) hx hb dX7_at_38 (by decide) ?_
        exact z_iret X hP hS hr hlocks h dX7_at_47
    · have h := zif_t h c5
      refine lv_iconst (v := -1) hx hb dX7_at_27 (by decide) ?_
      exact z_iret X hP hS hr hlocks h dX7_at_28
abbrev rmX7_power : Room := { frames := 2, cells := 0, slots := 0, locals := 45 }
set_option maxHeartbeats 4000000 in
set_option maxRecDepth 100000 in
theorem kX7_power {l : Launch} {D : va_G} {a : Nat → Nat} {cI cJ cC : ClassId} {x1 : Int32} {x2 : Int32} {x3 : Int32} {s τ : ZS} {r : Int32} (h : fX7_power x1 x2 x3 s = some (r, τ)) : zMi (zcM a cI cJ cC) 17 a D [(cI, .int), (cJ, .long), (cC, .char)] zEM l yX7_power wsX7_power rmX7_power [.ref (a 0), .int x1, .int x2, .int x3] s r τ := by
  refine z_start (cc := cX7_power) (maxL := 5) (ret := (some .int)) RX7 rfl (by decide) rfl (Nat.le_of_ble_eq_true rfl) ?_
  intro p e st m args below meth c ls H locs X hr hlocks hA hE hP hS hl
  obtain ⟨hx, hb, hml, hown, hts, -⟩ := id X
  have hG := zEM_good
  have inX7 : ∀ w ∈ u_ws RX7 TX7 26, w ∈ wsX7_power := by decide +kernel
  have hl : lv_has ls 5 [(0, .ref (a 0)), (1, .int x1), (2, .int x2), (3, .int x3)] := hl
  refine lv_iload_n hx hb dX7_power_0 rfl (lv_at hl 1 rfl) ?_
  obtain ⟨u1, s1, e1, h⟩ := zb_some h
  refine z_calli hS (z_runS (As := [.int x1]) (rest := []) X hG hA hE hP hS (kX7_isLamp (l := l) (D := D) (a := a) (cI := cI) (cJ := cJ) (cC := cC) e1 _) (va_cwS 1 hts gX7_power_X7_isLamp rfl rfl rfl (by decide +kernel) ⟨Nat.le_of_ble_eq_true rfl, Nat.le_of_ble_eq_true rfl⟩) rfl hl.1 rfl (Nat.le_of_ble_eq_true rfl) dX7_power_1) (fun H locs hP hS => ?_)
  refine lv_if_eq (tgt := 14) hx hb dX7_power_4 (by decide) (fun c2 => ?_) (fun c2 => ?_)
  · have h := zif_t h c2
    refine lv_iconst (v := -1) hx hb dX7_power_14 (by decide) ?_
    exact z_iret X hP hS hr hlocks h dX7_power_15
  · have h := zif_f h c2
    refine lv_iload_n hx hb dX7_power_7 rfl (lv_at hl 2 rfl) ?_
    obtain ⟨u3, s3, e3, h⟩ := zb_some h
    refine z_calli hS (z_runS (As := [.int x2]) (rest := []) X hG hA hE hP hS (kX7_isBand (l := l) (D := D) (a := a) (cI := cI) (cJ := cJ) (cC := cC) e3 _) (va_cwS 1 hts gX7_power_X7_isBand rfl rfl rfl (by decide +kernel) ⟨Nat.le_of_ble_eq_true rfl, Nat.le_of_ble_eq_true rfl⟩) rfl hl.1 rfl (Nat.le_of_ble_eq_true rfl) dX7_power_8) (fun H locs hP hS => ?_)
    refine lv_if_ne (tgt := 16) hx hb dX7_power_11 (by decide) (fun c4 => ?_) (fun c4 => ?_)
    · have h := zif_f h c4
      refine lv_iload_n hx hb dX7_power_16 rfl (lv_at hl 3 rfl) ?_
      refine lv_i2l hx hb dX7_power_17 rfl ?_
      refine lv_lconst (v := 0) hx hb dX7_power_18 (by decide) ?_
      refine lv_ldc2 (own := RX7) (index := 161) (v := 9) hx hb hown (hts _ (by decide +kernel)) dX7_power_19 ?_
      obtain ⟨u5, s5, e5, h⟩ := zb_some h
      refine z_calli hS (z_runS (As := [.long (x3).toInt64, .long (0 : Int64), .long (9 : Int64)]) (rest := []) X hG hA hE hP hS (kX7_isIn (l := l) (D := D) (a := a) (cI := cI) (cJ := cJ) (cC := cC) e5 _) (va_cwS 3 hts gX7_power_X7_isIn rfl rfl rfl (by decide +kernel) ⟨Nat.le_of_ble_eq_true rfl, Nat.le_of_ble_eq_true rfl⟩) rfl hl.1 rfl (Nat.le_of_ble_eq_true rfl) dX7_power_22) (fun H locs hP hS => ?_)
      refine lv_if_ne (tgt := 31) hx hb dX7_power_25 (by decide) (fun c6 => ?_) (fun c6 => ?_)
      · have h := zif_f h c6
        refine lv_aload_n hx hb dX7_power_31 rfl (lv_at hl 0 rfl) ?_
        refine z_get (C := RX7) (T := TX7) (N := 26) X inX7 hP 0 (by decide) (zcM_0 _ _ _ _ _ _) rfl 0 (by decide) rfl (by decide +kernel) rfl dX7_power_32 ?_
        refine lv_bipush (v := 100) hx hb dX7_power_35 (by decide) ?_
        refine lv_iconst (v := 5) hx hb dX7_power_37 (by decide) ?_
        refine lv_iload_n hx hb dX7_power_38 rfl (lv_at hl 1 rfl) ?_
        refine lv_imul hx hb dX7_power_39 ?_
        refine lv_iadd hx hb dX7_power_40 ?_
        refine lv_iload_n hx hb dX7_power_41 rfl (lv_at hl 2 rfl) ?_
        refine lv_iadd hx hb dX7_power_42 ?_
        obtain ⟨g7, h⟩ := zg_some h
        refine z_iald X hP 1 0 (by decide) (zcM_1 _ _ _ _ _ _) rfl g7 dX7_power_43 ?_
        refine lv_istore (lv' := [(4, .int ((s5).1 1 ((((100 : Int32) + ((5 : Int32) * x1)) + x2)).toNatClampNeg)), (0, .ref (a 0)), (1, .int x1), (2, .int x2), (3, .int x3)]) hx hb dX7_power_44 hl (by decide) rfl (fun ls hl => ?_)
        refine lv_aload_n hx hb dX7_power_46 rfl (lv_at hl 1 rfl) ?_
        refine z_get (C := RX7) (T := TX7) (N := 26) X inX7 hP 0 (by decide) (zcM_0 _ _ _ _ _ _) rfl 0 (by decide) rfl (by decide +kernel) rfl dX7_power_47 ?_
        refine lv_bipush (v := 100) hx hb dX7_power_50 (by decide) ?_
        refine lv_iconst (v := 5) hx hb dX7_power_52 (by decide) ?_
        refine lv_iload_n hx hb dX7_power_53 rfl (lv_at hl 2 rfl) ?_
        refine lv_imul hx hb dX7_power_54 ?_
        refine lv_iadd hx hb dX7_power_55 ?_
        refine lv_iload_n hx hb dX7_power_56 rfl (lv_at hl 3 rfl) ?_
        refine lv_iadd hx hb dX7_power_57 ?_
        refine lv_iload_n hx hb dX7_power_58 rfl (lv_at hl 4 rfl) ?_
        obtain ⟨g8, h⟩ := zg_some h
        refine z_iast X hA hP hS 1 0 (by decide) (zcM_1 _ _ _ _) rfl g8 dX7_power_59 (fun H locs hP hS => ?_)
        refine lv_iload hx hb dX7_power_60 (lv_at hl 0 rfl) ?_
        exact z_iret X hP hS hr hlocks h dX7_power_62
      · have h := zif_t h c6
        refine lv_bipush (v := -2) hx hb dX7_power_28 (by decide) ?_
        exact z_iret X hP hS hr hlocks h dX7_power_30
    · have h := zif_t h c4
      refine lv_iconst (v := -1) hx hb dX7_power_14 (by decide) ?_
      exact z_iret X hP hS hr hlocks h dX7_power_15
abbrev rmX7_weight : Room := { frames := 2, cells := 0, slots := 0, locals := 45 }
set_option maxHeartbeats 4000000 in
set_option maxRecDepth 100000 in
theorem kX7_weight {l : Launch} {D : va_G} {a : Nat → Nat} {cI cJ cC : ClassId} {x1 : Int32} {x2 : Int32} {x3 : Int32} {s τ : ZS} {r : Int32} (h : fX7_weight x1 x2 x3 s = some (r, τ)) : zMi (zcM a cI cJ cC) 17 a D [(cI, .int), (cJ, .long), (cC, .char)] zEM l yX7_weight wsX7_weight rmX7_weight [.ref (a 0), .int x1, .int x2, .int x3] s r τ := by
  refine z_start (cc := cX7_weight) (maxL := 5) (ret := (some .int)) RX7 rfl (by decide) rfl (Nat.le_of_ble_eq_true rfl) ?_
  intro p e st m args below meth c ls H locs X hr hlocks hA hE hP hS hl
  obtain ⟨hx, hb, hml, hown, hts, -⟩ := id X
  have hG := zEM_good
  have inX7 : ∀ w ∈ u_ws RX7 TX7 26, w ∈ wsX7_weight := by decide +kernel
  have hl : lv_has ls 5 [(0, .ref (a 0)), (1, .int x1), (2, .int x2), (3, .int x3)] := hl
  refine lv_iload_n hx hb dX7_weight_0 rfl (lv_at hl 1 rfl) ?_
  refine lv_i2l hx hb dX7_weight_1 rfl ?_
  refine lv_lconst (v := 0) hx hb dX7_weight_2 (by decide) ?_
  refine lv_ldc2 (own := RX7) (index := 66) (v := 2) hx hb hown (hts _ (by decide +kernel)) dX7_weight_3 ?_
  obtain ⟨u1, s1, e1, h⟩ := zb_some h
  refine z_calli hS (z_runS (As := [.long (x1).toInt64, .long (0 : Int64), .long (2 : Int64)]) (rest := []) X hG hA hE hP hS (kX7_isIn (l := l) (D := D) (a := a) (cI := cI) (cJ := cJ) (cC := cC) e1 _) (va_cwS 3 hts gX7_weight_X7_isIn rfl rfl rfl (by decide +kernel) ⟨Nat.le_of_ble_eq_true rfl, Nat.le_of_ble_eq_true rfl⟩) rfl hl.1 rfl (Nat.le_of_ble_eq_true rfl) dX7_weight_6) (fun H locs hP hS => ?_)
  refine lv_if_eq (tgt := 19) hx hb dX7_weight_9 (by decide) (fun c2 => ?_) (fun c2 => ?_)
  · have h := zif_t h c2
    refine lv_iconst (v := -1) hx hb dX7_weight_19 (by decide) ?_
    exact z_iret X hP hS hr hlocks h dX7_weight_20
  · have h := zif_f h c2
    refine lv_iload_n hx hb dX7_weight_12 rfl (lv_at hl 2 rfl) ?_
    obtain ⟨u3, s3, e3, h⟩ := zb_some h
    refine z_calli hS (z_runS (As := [.int x2]) (rest := []) X hG hA hE hP hS (kX7_isBand (l := l) (D := D) (a := a) (cI := cI) (cJ := cJ) (cC := cC) e3 _) (va_cwS 1 hts gX7_weight_X7_isBand rfl rfl rfl (by decide +kernel) ⟨Nat.le_of_ble_eq_true rfl, Nat.le_of_ble_eq_true rfl⟩) rfl hl.1 rfl (Nat.le_of_ble_eq_true rfl) dX7_weight_13) (fun H locs hP hS => ?_)
    refine lv_if_ne (tgt := 21) hx hb dX7_weight_16 (by decide) (fun c4 => ?_) (fun c4 => ?_)
    · have h := zif_f h c4
      refine lv_iload_n hx hb dX7_weight_21 rfl (lv_at hl 3 rfl) ?_
      refine lv_i2l hx hb dX7_weight_22 rfl ?_
      refine lv_lconst (v := 0) hx hb dX7_weight_23 (by decide) ?_
      refine lv_ldc2 (own := RX7) (index := 161) (v := 9) hx hb hown (hts _ (by decide +kernel)) dX7_weight_24 ?_
      obtain ⟨u5, s5, e5, h⟩ := zb_some h
      refine z_calli hS (z_runS (As := [.long (x3).toInt64, .long (0 : Int64), .long (9 : Int64)]) (rest := []) X hG hA hE hP hS (kX7_isIn (l := l) (D := D) (a := a) (cI := cI) (cJ := cJ) (cC := cC) e5 _) (va_cwS 3 hts gX7_weight_X7_isIn rfl rfl rfl (by decide +kernel) ⟨Nat.le_of_ble_eq_true rfl, Nat.le_of_ble_eq_true rfl⟩) rfl hl.1 rfl (Nat.le_of_ble_eq_true rfl) dX7_weight_27) (fun H locs hP hS => ?_)
      refine lv_if_ne (tgt := 36) hx hb dX7_weight_30 (by decide) (fun c6 => ?_) (fun c6 => ?_)
      · have h := zif_f h c6
        refine lv_aload_n hx hb dX7_weight_36 rfl (lv_at hl 0 rfl) ?_
        refine z_get (C := RX7) (T := TX7) (N := 26) X inX7 hP 0 (by decide) (zcM_0 _ _ _ _ _ _) rfl 0 (by decide) rfl (by decide +kernel) rfl dX7_weight_37 ?_
        refine lv_bipush (v := 115) hx hb dX7_weight_40 (by decide) ?_
        refine lv_iconst (v := 5) hx hb dX7_weight_42 (by decide) ?_
        refine lv_iload_n hx hb dX7_weight_43 rfl (lv_at hl 1 rfl) ?_
        refine lv_imul hx hb dX7_weight_44 ?_
        refine lv_iadd hx hb dX7_weight_45 ?_
        refine lv_iload_n hx hb dX7_weight_46 rfl (lv_at hl 2 rfl) ?_
        refine lv_iadd hx hb dX7_weight_47 ?_
        obtain ⟨g7, h⟩ := zg_some h
        refine z_iald X hP 1 0 (by decide) (zcM_1 _ _ _ _ _ _) rfl g7 dX7_weight_48 ?_
        refine lv_istore (lv' := [(4, .int ((s5).1 1 ((((115 : Int32) + ((5 : Int32) * x1)) + x2)).toNatClampNeg)), (0, .ref (a 0)), (1, .int x1), (2, .int x2), (3, .int x3)]) hx hb dX7_weight_49 hl (by decide) rfl (fun ls hl => ?_)
        refine lv_aload_n hx hb dX7_weight_51 rfl (lv_at hl 1 rfl) ?_
        refine z_get (C := RX7) (T := TX7) (N := 26) X inX7 hP 0 (by decide) (zcM_0 _ _ _ _ _ _) rfl 0 (by decide) rfl (by decide +kernel) rfl dX7_weight_52 ?_
        refine lv_bipush (v := 115) hx hb dX7_weight_55 (by decide) ?_
        refine lv_iconst (v := 5) hx hb dX7_weight_57 (by decide) ?_
        refine lv_iload_n hx hb dX7_weight_58 rfl (lv_at hl 2 rfl) ?_
        refine lv_imul hx hb dX7_weight_59 ?_
        refine lv_iadd hx hb dX7_weight_60 ?_
        refine lv_iload_n hx hb dX7_weight_61 rfl (lv_at hl 3 rfl) ?_
        refine lv_iadd hx hb dX7_weight_62 ?_
        refine lv_iload_n hx hb dX7_weight_63 rfl (lv_at hl 4 rfl) ?_
        obtain ⟨g8, h⟩ := zg_some h
        refine z_iast X hA hP hS 1 0 (by decide) (zcM_1 _ _ _ _) rfl g8 dX7_weight_64 (fun H locs hP hS => ?_)
        refine lv_iload hx hb dX7_weight_65 (lv_at hl 0 rfl) ?_
        exact z_iret X hP hS hr hlocks h dX7_weight_67
      · have h := zif_t h c6
        refine lv_bipush (v := -2) hx hb dX7_weight_33 (by decide) ?_
        exact z_iret X hP hS hr hlocks h dX7_weight_35
    · have h := zif_t h c4
      refine lv_iconst (v := -1) hx hb dX7_weight_19 (by decide) ?_
      exact z_iret X hP hS hr hlocks h dX7_weight_20
abbrev rmX7_common : Room := { frames := 0, cells := 0, slots := 0, locals := 0 }
set_option maxHeartbeats 4000000 in
set_option maxRecDepth 100000 in
theorem kX7_common {l : Launch} {D : va_G} {a : Nat → Nat} {cI cJ cC : ClassId} {x0 : Int64} {x2 : Int64} {s τ : ZS} {r : Int64} (h : fX7_common x0 x2 s = some (r, τ)) : zMl (zcM a cI cJ cC) 17 a D [(cI, .int), (cJ, .long), (cC, .char)] zEM l yX7_common wsX7_common rmX7_common [.long x0, .long x2] s r τ := by
  refine z_start (cc := cX7_common) (maxL := 10) (ret := (some .long)) RX7 rfl (by decide) rfl (Nat.le_of_ble_eq_true rfl) ?_
  intro p e st m args below meth c ls H locs X hr hlocks hA hE hP hS hl
  obtain ⟨hx, hb, hml, hown, hts, -⟩ := id X
  have hG := zEM_good
  have w6 : ∀  (n : Nat) (x4 : Int64) (x6 : Int64) (s : ZS) (H : Heap) (locs : List Loc) (ls : Array Slot), fX7_common_6n  n (x4, x6, s) = some (r, τ) → va_P D vwCl (zW (zcM a cI cJ cC) 17 a s) H → va_S (zF 17 a st.heap.size) st.heap H locs → lv_has ls 10 [(4, .long x4), (6, .long x6)] → W p l e rmX7_common st m args below meth c H locs 0 0 (MQ below (va_Ql (fun (r' : Int64) (τ' : ZS) => r' = r ∧ τ' = τ) (zPost (zcM a cI cJ cC) 17 a D [(cI, .int), (cJ, .long), (cC, .char)]) (zF 17 a st.heap.size)) args st 0 0 (zF 17 a st.heap.size)) (F0 m 6 ls []) := by
    intro  n
    induction n with
    | zero => intro x4 x6 s H locs ls h; exact zloop_0 h
    | succ n ih =>
      intro x4 x6 s H locs ls h hP hS hl
      have h : fX7_common_6b  (fun x4 x6 s => fX7_common_6n  n (x4, x6, s)) x4 x6 s = some (r, τ) := h
      refine lv_lload hx hb dX7_common_6 (lv_at hl 1 rfl) ?_
      refine lv_lconst (v := 0) hx hb dX7_common_8 (by decide) ?_
      refine W.lcmp hx hb dX7_common_9 ?_
      refine lv_if_eq (tgt := 31) hx hb dX7_common_10 (by decide) (fun c1 => ?_) (fun c1 => ?_)
      · have h := zif_t h c1
        refine lv_lload hx hb dX7_common_31 (lv_at hl 0 rfl) ?_
        exact z_lret X hP hS hr hlocks h dX7_common_33
      · have h := zif_f h c1
        refine lv_lload hx hb dX7_common_13 (lv_at hl 0 rfl) ?_
        refine lv_lload hx hb dX7_common_15 (lv_at hl 1 rfl) ?_
        obtain ⟨g2, h⟩ := zg_some h
        refine lv_lrem hx hb dX7_common_17 (znl_ne g2) ?_
        refine lv_lstore (lv' := [(8, .long (x4 - x4 / x6 * x6)), (4, .long x4), (6, .long x6)]) hx hb dX7_common_18 hl (by decide) rfl (fun ls hl => ?_)
        refine lv_lload hx hb dX7_common_20 (lv_at hl 2 rfl) ?_
        refine lv_lstore (lv' := [(4, .long x6), (8, .long (x4 - x4 / x6 * x6)), (6, .long x6)]) hx hb dX7_common_22 hl (by decide) rfl (fun ls hl => ?_)
        refine lv_lload hx hb dX7_common_24 (lv_at hl 1 rfl) ?_
        refine lv_lstore (lv' := [(6, .long (x4 - x4 / x6 * x6)), (4, .long x6), (8, .long (x4 - x4 / x6 * x6))]) hx hb dX7_common_26 hl (by decide) rfl (fun ls hl => ?_)
        refine lv_goto (tgt := 6) hx hb dX7_common_28 (by decide) ?_
        exact ih (x6) ((x4 - x4 / x6 * x6)) (s) _ _ _ h hP hS (lv_sub hl [1, 0] rfl)
  have hl : lv_has ls 10 [(0, .long x0), (2, .long x2)] := hl
  refine lv_lload_n hx hb dX7_common_0 rfl (lv_at hl 0 rfl) ?_
  refine lv_lstore (lv' := [(4, .long x0), (0, .long x0), (2, .long x2)]) hx hb dX7_common_1 hl (by decide) rfl (fun ls hl => ?_)
  refine lv_lload_n hx hb dX7_common_3 rfl (lv_at hl 2 rfl) ?_
  refine lv_lstore (lv' := [(6, .long x2), (4, .long x0), (0, .long x0), (2, .long x2)]) hx hb dX7_common_4 hl (by decide) rfl (fun ls hl => ?_)
  exact w6  zN (x0) (x2) (s) _ _ _ h hP hS (lv_sub hl [1, 0] rfl)
abbrev rmX7_partOf : Room := { frames := 1, cells := 0, slots := 0, locals := 29 }
set_option maxHeartbeats 4000000 in
set_option maxRecDepth 100000 in
theorem kX7_partOf {l : Launch} {D : va_G} {a : Nat → Nat} {cI cJ cC : ClassId} {x0 : Int64} {x2 : Int64} {x4 : Int32} {s τ : ZS} {r : Int64} (h : fX7_partOf x0 x2 x4 s = some (r, τ)) : zMl (zcM a cI cJ cC) 17 a D [(cI, .int), (cJ, .long), (cC, .char)] zEM l yX7_partOf wsX7_partOf rmX7_partOf [.long x0, .long x2, .int x4] s r τ := by
  refine z_start (cc := cX7_partOf) (maxL := 5) (ret := (some .long)) RX7 rfl (by decide) rfl (Nat.le_of_ble_eq_true rfl) ?_
  intro p e st m args below meth c ls H locs X hr hlocks hA hE hP hS hl
  obtain ⟨hx, hb, hml, hown, hts, -⟩ := id X
  have hG := zEM_good
  have w10 : ∀  (x0 : Int64) (x2 : Int64) (t0 : Int64) (s : ZS) (H : Heap) (locs : List Loc) (ls : Array Slot), fX7_partOf_10  x0 x2 t0 s = some (r, τ) → va_P D vwCl (zW (zcM a cI cJ cC) 17 a s) H → va_S (zF 17 a st.heap.size) st.heap H locs → lv_has ls 5 [(0, .long x0), (2, .long x2)] → W p l e rmX7_partOf st m args below meth c H locs 0 0 (MQ below (va_Ql (fun (r' : Int64) (τ' : ZS) => r' = r ∧ τ' = τ) (zPost (zcM a cI cJ cC) 17 a D [(cI, .int), (cJ, .long), (cC, .char)]) (zF 17 a st.heap.size)) args st 0 0 (zF 17 a st.heap.size)) (F0 m 10 ls [.long t0]) := by
    intro  x0 x2 t0 s H locs ls h hP hS hl
    refine lv_lload_n hx hb dX7_partOf_10 rfl (lv_at hl 0 rfl) ?_
    refine lv_lload_n hx hb dX7_partOf_11 rfl (lv_at hl 1 rfl) ?_
    obtain ⟨u1, s1, e1, h⟩ := zb_some h
    refine z_calll hS (z_runS (As := [.long x0, .long x2]) (rest := [.long t0]) X hG hA hE hP hS (kX7_common (l := l) (D := D) (a := a) (cI := cI) (cJ := cJ) (cC := cC) e1 _) (va_cwS 2 hts gX7_partOf_X7_common rfl rfl rfl (by decide +kernel) ⟨Nat.le_of_ble_eq_true rfl, Nat.le_of_ble_eq_true rfl⟩) rfl hl.1 rfl (Nat.le_of_ble_eq_true rfl) dX7_partOf_12) (fun H locs hP hS => ?_)
    obtain ⟨g2, h⟩ := zg_some h
    refine lv_ldiv hx hb dX7_partOf_15 (znl_ne g2) ?_
    exact z_lret X hP hS hr hlocks h dX7_partOf_16
  have hl : lv_has ls 5 [(0, .long x0), (2, .long x2), (4, .int x4)] := hl
  refine lv_iload hx hb dX7_partOf_0 (lv_at hl 2 rfl) ?_
  refine lv_if_ne (tgt := 9) hx hb dX7_partOf_2 (by decide) (fun c1 => ?_) (fun c1 => ?_)
  · have h := zif_f h c1
    refine lv_lload_n hx hb dX7_partOf_9 rfl (lv_at hl 1 rfl) ?_
    exact w10   (x0) (x2) (x2) (s) _ _ _ h hP hS (lv_sub hl [0, 1] rfl)
  · have h := zif_t h c1
    refine lv_lload_n hx hb dX7_partOf_5 rfl (lv_at hl 0 rfl) ?_
    refine lv_goto (tgt := 10) hx hb dX7_partOf_6 (by decide) ?_
    exact w10   (x0) (x2) (x0) (s) _ _ _ h hP hS (lv_sub hl [0, 1] rfl)
abbrev rmX7_through : Room := { frames := 5, cells := 0, slots := 0, locals := 112 }
set_option maxHeartbeats 4000000 in
set_option maxRecDepth 100000 in
theorem kX7_through {l : Launch} {D : va_G} {a : Nat → Nat} {cI cJ cC : ClassId} {x1 : Int32} {x2 : Int32} {x3 : Int32} {s τ : ZS} {r : Int64} (h : fX7_through x1 x2 x3 s = some (r, τ)) : zMl (zcM a cI cJ cC) 17 a D [(cI, .int), (cJ, .long), (cC, .char)] zEM l yX7_through wsX7_through rmX7_through [.ref (a 0), .int x1, .int x2, .int x3] s r τ := by
  refine z_start (cc := cX7_through) (maxL := 4) (ret := (some .long)) RX7 rfl (by decide) rfl (Nat.le_of_ble_eq_true rfl) ?_
  intro p e st m args below meth c ls H locs X hr hlocks hA hE hP hS hl
  obtain ⟨hx, hb, hml, hown, hts, -⟩ := id X
  have hG := zEM_good
  have inX7 : ∀ w ∈ u_ws RX7 TX7 26, w ∈ wsX7_through := by decide +kernel
  have hl : lv_has ls 4 [(0, .ref (a 0)), (1, .int x1), (2, .int x2), (3, .int x3)] := hl
  refine lv_aload_n hx hb dX7_through_0 rfl (lv_at hl 0 rfl) ?_
  refine lv_iload_n hx hb dX7_through_1 rfl (lv_at hl 1 rfl) ?_
  obtain ⟨u1, s1, e1, h⟩ := zb_some h
  refine z_calli hS (z_runV (As := [.int x1]) (rest := []) X hG hA hE hP hS 0 (kX7_isStack (l := l) (D := D) (a := a) (cI := cI) (cJ := cJ) (cC := cC) e1 _) (cwV 1 hts gX7_through_X7_isStack rfl rfl rfl (by decide +kernel) ⟨Nat.le_of_ble_eq_true rfl, Nat.le_of_ble_eq_true rfl⟩) (by decide) (zcM_0 _ _ _ _ _ _) rfl rfl rfl hl.1 rfl (Nat.le_of_ble_eq_true rfl) dX7_through_2) (fun H locs hP hS => ?_)
  refine lv_if_eq (tgt := 25) hx hb dX7_through_5 (by decide) (fun c2 => ?_) (fun c2 => ?_)
  · have h := zif_t h c2
    refine lv_ldc2 (own := RX7) (index := 181) (v := -9223372036854775808) hx hb hown (hts _ (by decide +kernel)) dX7_through_25 ?_
    exact z_lret X hP hS hr hlocks h dX7_through_28
  · have h := zif_f h c2
    refine lv_iload_n hx hb dX7_through_8 rfl (lv_at hl 2 rfl) ?_
    obtain ⟨u3, s3, e3, h⟩ := zb_some h
    refine z_calli hS (z_runS (As := [.int x2]) (rest := []) X hG hA hE hP hS (kX7_isBand (l := l) (D := D) (a := a) (cI := cI) (cJ := cJ) (cC := cC) e3 _) (va_cwS 1 hts gX7_through_X7_isBand rfl rfl rfl (by decide +kernel) ⟨Nat.le_of_ble_eq_true rfl, Nat.le_of_ble_eq_true rfl⟩) rfl hl.1 rfl (Nat.le_of_ble_eq_true rfl) dX7_through_9) (fun H locs hP hS => ?_)
    refine lv_if_eq (tgt := 25) hx hb dX7_through_12 (by decide) (fun c4 => ?_) (fun c4 => ?_)
    · have h := zif_t h c4
      refine lv_ldc2 (own := RX7) (index := 181) (v := -9223372036854775808) hx hb hown (hts _ (by decide +kernel)) dX7_through_25 ?_
      exact z_lret X hP hS hr hlocks h dX7_through_28
    · have h := zif_f h c4
      refine lv_iload_n hx hb dX7_through_15 rfl (lv_at hl 3 rfl) ?_
      refine lv_i2l hx hb dX7_through_16 rfl ?_
      refine lv_lconst (v := 0) hx hb dX7_through_17 (by decide) ?_
      refine lv_lconst (v := 1) hx hb dX7_through_18 (by decide) ?_
      obtain ⟨u5, s5, e5, h⟩ := zb_some h
      refine z_calli hS (z_runS (As := [.long (x3).toInt64, .long (0 : Int64), .long (1 : Int64)]) (rest := []) X hG hA hE hP hS (kX7_isIn (l := l) (D := D) (a := a) (cI := cI) (cJ := cJ) (cC := cC) e5 _) (va_cwS 3 hts gX7_through_X7_isIn rfl rfl rfl (by decide +kernel) ⟨Nat.le_of_ble_eq_true rfl, Nat.le_of_ble_eq_true rfl⟩) rfl hl.1 rfl (Nat.le_of_ble_eq_true rfl) dX7_through_19) (fun H locs hP hS => ?_)
      refine lv_if_ne (tgt := 29) hx hb dX7_through_22 (by decide) (fun c6 => ?_) (fun c6 => ?_)
      · have h := zif_f h c6
        refine lv_aload_n hx hb dX7_through_29 rfl (lv_at hl 0 rfl) ?_
        refine lv_iload_n hx hb dX7_through_30 rfl (lv_at hl 1 rfl) ?_
        obtain ⟨u7, s7, e7, h⟩ := zb_some h
        refine z_callv hS (z_runV (As := [.int x1]) (rest := []) X hG hA hE hP hS 0 (kX7_shines (l := l) (D := D) (a := a) (cI := cI) (cJ := cJ) (cC := cC) e7 _) (cwV 1 hts gX7_through_X7_shines rfl rfl rfl (by decide +kernel) ⟨Nat.le_of_ble_eq_true rfl, Nat.le_of_ble_eq_true rfl⟩) (by decide) (zcM_0 _ _ _ _ _ _) rfl rfl rfl hl.1 rfl (Nat.le_of_ble_eq_true rfl) dX7_through_31) (fun H locs hP hS => ?_)
        refine lv_aload_n hx hb dX7_through_34 rfl (lv_at hl 0 rfl) ?_
        refine z_get (C := RX7) (T := TX7) (N := 26) X inX7 hP 0 (by decide) (zcM_0 _ _ _ _ _ _) rfl 3 (by decide) rfl (by decide +kernel) rfl dX7_through_35 ?_
        refine lv_iload_n hx hb dX7_through_38 rfl (lv_at hl 2 rfl) ?_
        obtain ⟨g8, h⟩ := zg_some h
        refine z_lald X hP 3 1 (by decide) (zcM_3 _ _ _ _ _ _) rfl g8 dX7_through_39 ?_
        refine lv_aload_n hx hb dX7_through_40 rfl (lv_at hl 0 rfl) ?_
        refine z_get (C := RX7) (T := TX7) (N := 26) X inX7 hP 0 (by decide) (zcM_0 _ _ _ _ _ _) rfl 4 (by decide) rfl (by decide +kernel) rfl dX7_through_41 ?_
        refine lv_iload_n hx hb dX7_through_44 rfl (lv_at hl 3 rfl) ?_
        obtain ⟨u9, s9, e9, h⟩ := zb_some h
        refine z_calll hS (z_runS (As := [.long ((s7).2 3 (x2).toNatClampNeg), .long ((s7).2 0 4), .int x3]) (rest := []) X hG hA hE hP hS (kX7_partOf (l := l) (D := D) (a := a) (cI := cI) (cJ := cJ) (cC := cC) e9 _) (va_cwS 3 hts gX7_through_X7_partOf rfl rfl rfl (by decide +kernel) ⟨Nat.le_of_ble_eq_true rfl, Nat.le_of_ble_eq_true rfl⟩) rfl hl.1 rfl (Nat.le_of_ble_eq_true rfl) dX7_through_45) (fun H locs hP hS => ?_)
        exact z_lret X hP hS hr hlocks h dX7_through_48
      · have h := zif_t h c6
        refine lv_ldc2 (own := RX7) (index := 181) (v := -9223372036854775808) hx hb hown (hts _ (by decide +kernel)) dX7_through_25 ?_
        exact z_lret X hP hS hr hlocks h dX7_through_28
