set_option maxHeartbeats 4000000 in
set_option maxRecDepth 100000 in
theorem law_case24 {p : Program} {l : Launch} {e : Env} {s : State} {m : MethodId} {below : List Frame} {meth : Method} {c : Code} {b L : Nat} {xs : Nat → Int32} {D : va_G} {aC aM adK adV : Nat → Nat} {cI cJ cC : ClassId} {R : ZS → ZS → Prop} (hstep : zStep24 R) (C0 : lw_At p s m meth c b L xs) (Z : zLaw s D aC aM adK adV cI cJ cC) {x3 : Int32} (hin : ∀ k : Nat, k < 8 → vp_in (x3 + nI k) L) {σ τ : ZS} (hR : R σ τ) (H : Heap) (locs : List Loc) (ls : Array Slot) (hPC : va_P D vwCl (zW (zcC aC cI cJ cC) 41 aC σ) H) (hPM : va_P D vwCl (zW (zcM aM cI cJ cC) 17 aM τ) H) (hS : va_S (fun q : Nat => s.heap.size ≤ q) s.heap H locs) (hl : lv_has ls 4 [(0, .ref b), (1, .ref (aC 0)), (2, .ref (aM 0)), (3, .int x3)]) (hend : ∀ (σ τ : ZS) (H : Heap) (locs : List Loc), R σ τ → va_P D vwCl (zW (zcC aC cI cJ cC) 41 aC σ) H → va_P D vwCl (zW (zcM aM cI cJ cC) 17 aM τ) H → va_S (fun q : Nat => s.heap.size ≤ q) s.heap H locs → ∀ ls : Array Slot, lv_has ls 4 [(0, .ref b), (1, .ref (aC 0)), (2, .ref (aM 0)), (3, .int x3)] → W p l e room_1 s m #[Value.ref b] below meth c H locs 58 1286 (lw_Z below #[Value.ref b] s) (F0 m 1441 ls [])) : W p l e room_1 s m #[Value.ref b] below meth c H locs 58 1286 (lw_Z below #[Value.ref b] s) (F0 m 1092 ls []) := by
  obtain ⟨hx, hb, hr, hml, hown, hts0, hX, hbl, hlocks, hgv⟩ := C0
  obtain ⟨hK, hzC, hzM, hdis, hAC, hAM, hE⟩ := Z
  have hK2 : va_K D vwCl [(cI, .int), (cJ, .long)] s := hK.sub [0, 1] rfl
  have hts : ∀ w ∈ wsL_law, w.before #[Value.ref b] s = true := fun w h => hts0 w (wsL_law_in w h)
  have hown : s.vm.findClass RL = some m.cls := hown
  have hA : ∀ q : Nat, s.heap.size ≤ q → (fun q : Nat => s.heap.size ≤ q) q := fun _ h => h
  have hbA : ¬ (fun q : Nat => s.heap.size ≤ q) b := Nat.not_le.mpr hbl
  obtain ⟨r9, σ1, τ1, e1, e2, hR1⟩ := hstep σ τ (xs (x3 + (1 : Int32)).toNatClampNeg) (xs (x3 + (2 : Int32)).toNatClampNeg) (xs (x3 + (3 : Int32)).toNatClampNeg) (xs (x3 + (4 : Int32)).toNatClampNeg) (xs (x3 + (5 : Int32)).toNatClampNeg) (xs (x3 + (6 : Int32)).toNatClampNeg) (xs (x3 + (7 : Int32)).toNatClampNeg) hR
  refine lv_aload_n hx hb dL_law_1092 rfl (lv_at hl 1 rfl) ?_
  refine lv_aload_n hx hb dL_law_1093 rfl (lv_at hl 0 rfl) ?_
  refine lv_iload_n hx hb dL_law_1094 rfl (lv_at hl 3 rfl) ?_
  refine lv_iconst (v := 1) hx hb dL_law_1095 (by decide) ?_
  refine lv_iadd hx hb dL_law_1096 ?_
  refine va_sld hx hb hX hbl hbA hS (hin 1 (by decide)) dL_law_1097 ?_
  refine lv_aload_n hx hb dL_law_1098 rfl (lv_at hl 0 rfl) ?_
  refine lv_iload_n hx hb dL_law_1099 rfl (lv_at hl 3 rfl) ?_
  refine lv_iconst (v := 2) hx hb dL_law_1100 (by decide) ?_
  refine lv_iadd hx hb dL_law_1101 ?_
  refine va_sld hx hb hX hbl hbA hS (hin 2 (by decide)) dL_law_1102 ?_
  refine lv_aload_n hx hb dL_law_1103 rfl (lv_at hl 0 rfl) ?_
  refine lv_iload_n hx hb dL_law_1104 rfl (lv_at hl 3 rfl) ?_
  refine lv_iconst (v := 3) hx hb dL_law_1105 (by decide) ?_
  refine lv_iadd hx hb dL_law_1106 ?_
  refine va_sld hx hb hX hbl hbA hS (hin 3 (by decide)) dL_law_1107 ?_
  refine lv_aload_n hx hb dL_law_1108 rfl (lv_at hl 0 rfl) ?_
  refine lv_iload_n hx hb dL_law_1109 rfl (lv_at hl 3 rfl) ?_
  refine lv_iconst (v := 4) hx hb dL_law_1110 (by decide) ?_
  refine lv_iadd hx hb dL_law_1111 ?_
  refine va_sld hx hb hX hbl hbA hS (hin 4 (by decide)) dL_law_1112 ?_
  refine lv_aload_n hx hb dL_law_1113 rfl (lv_at hl 0 rfl) ?_
  refine lv_iload_n hx hb dL_law_1114 rfl (lv_at hl 3 rfl) ?_
  refine lv_iconst (v := 5) hx hb dL_law_1115 (by decide) ?_
  refine lv_iadd hx hb dL_law_1116 ?_
  refine va_sld hx hb hX hbl hbA hS (hin 5 (by decide)) dL_law_1117 ?_
  refine lv_aload_n hx hb dL_law_1118 rfl (lv_at hl 0 rfl) ?_
  refine lv_iload_n hx hb dL_law_1119 rfl (lv_at hl 3 rfl) ?_
  refine lv_bipush (v := 6) hx hb dL_law_1120 (by decide) ?_
  refine lv_iadd hx hb dL_law_1122 ?_
  refine va_sld hx hb hX hbl hbA hS (hin 6 (by decide)) dL_law_1123 ?_
  refine lv_aload_n hx hb dL_law_1124 rfl (lv_at hl 0 rfl) ?_
  refine lv_iload_n hx hb dL_law_1125 rfl (lv_at hl 3 rfl) ?_
  refine lv_bipush (v := 7) hx hb dL_law_1126 (by decide) ?_
  refine lv_iadd hx hb dL_law_1128 ?_
  refine va_sld hx hb hX hbl hbA hS (hin 7 (by decide)) dL_law_1129 ?_
  refine zw_calll hAC hA hS (zw_run (As := [.int (xs (x3 + (1 : Int32)).toNatClampNeg), .int (xs (x3 + (2 : Int32)).toNatClampNeg), .int (xs (x3 + (3 : Int32)).toNatClampNeg), .int (xs (x3 + (4 : Int32)).toNatClampNeg), .int (xs (x3 + (5 : Int32)).toNatClampNeg), .int (xs (x3 + (6 : Int32)).toNatClampNeg), .int (xs (x3 + (7 : Int32)).toNatClampNeg)]) (rest := []) hx hb hml hown hts hK2 (zEC_good adK adV) hzC hAC hA hE hPC hS 0 (kX6_odds (l := l) (D := D) (a := aC) (cI := cI) (cJ := cJ) (cC := cC) (adK := adK) (adV := adV) e1 _) (cwV 7 hts gL_law_X6_odds rfl rfl rfl (by decide +kernel) ⟨Nat.le_of_ble_eq_true rfl, Nat.le_of_ble_eq_true rfl⟩) (by decide) (zcC_0 _ _ _ _ _ _) rfl rfl rfl hl.1 rfl (Nat.le_of_ble_eq_true rfl) ⟨Nat.le_of_ble_eq_true rfl, Nat.le_of_ble_eq_true rfl⟩ dL_law_1130) (fun H locs hPC hS hk9 => ?_)
  have hPM := zw_kept hPM hdis hk9
  refine lv_aload_n hx hb dL_law_1133 rfl (lv_at hl 2 rfl) ?_
  refine lv_aload_n hx hb dL_law_1134 rfl (lv_at hl 0 rfl) ?_
  refine lv_iload_n hx hb dL_law_1135 rfl (lv_at hl 3 rfl) ?_
  refine lv_iconst (v := 1) hx hb dL_law_1136 (by decide) ?_
  refine lv_iadd hx hb dL_law_1137 ?_
  refine va_sld hx hb hX hbl hbA hS (hin 1 (by decide)) dL_law_1138 ?_
  refine lv_aload_n hx hb dL_law_1139 rfl (lv_at hl 0 rfl) ?_
  refine lv_iload_n hx hb dL_law_1140 rfl (lv_at hl 3 rfl) ?_
  refine lv_iconst (v := 2) hx hb dL_law_1141 (by decide) ?_
  refine lv_iadd hx hb dL_law_1142 ?_
  refine va_sld hx hb hX hbl hbA hS (hin 2 (by decide)) dL_law_1143 ?_
  refine lv_aload_n hx hb dL_law_1144 rfl (lv_at hl 0 rfl) ?_
  refine lv_iload_n hx hb dL_law_1145 rfl (lv_at hl 3 rfl) ?_
  refine lv_iconst (v := 3) hx hb dL_law_1146 (by decide) ?_
  refine lv_iadd hx hb dL_law_1147 ?_
  refine va_sld hx hb hX hbl hbA hS (hin 3 (by decide)) dL_law_1148 ?_
  refine lv_aload_n hx hb dL_law_1149 rfl (lv_at hl 0 rfl) ?_
  refine lv_iload_n hx hb dL_law_1150 rfl (lv_at hl 3 rfl) ?_
  refine lv_iconst (v := 4) hx hb dL_law_1151 (by decide) ?_
  refine lv_iadd hx hb dL_law_1152 ?_
  refine va_sld hx hb hX hbl hbA hS (hin 4 (by decide)) dL_law_1153 ?_
  refine lv_aload_n hx hb dL_law_1154 rfl (lv_at hl 0 rfl) ?_
  refine lv_iload_n hx hb dL_law_1155 rfl (lv_at hl 3 rfl) ?_
  refine lv_iconst (v := 5) hx hb dL_law_1156 (by decide) ?_
  refine lv_iadd hx hb dL_law_1157 ?_
  refine va_sld hx hb hX hbl hbA hS (hin 5 (by decide)) dL_law_1158 ?_
  refine lv_aload_n hx hb dL_law_1159 rfl (lv_at hl 0 rfl) ?_
  refine lv_iload_n hx hb dL_law_1160 rfl (lv_at hl 3 rfl) ?_
  refine lv_bipush (v := 6) hx hb dL_law_1161 (by decide) ?_
  refine lv_iadd hx hb dL_law_1163 ?_
  refine va_sld hx hb hX hbl hbA hS (hin 6 (by decide)) dL_law_1164 ?_
  refine lv_aload_n hx hb dL_law_1165 rfl (lv_at hl 0 rfl) ?_
  refine lv_iload_n hx hb dL_law_1166 rfl (lv_at hl 3 rfl) ?_
  refine lv_bipush (v := 7) hx hb dL_law_1167 (by decide) ?_
  refine lv_iadd hx hb dL_law_1169 ?_
  refine va_sld hx hb hX hbl hbA hS (hin 7 (by decide)) dL_law_1170 ?_
  refine zw_calll hAM hA hS (zw_run (As := [.int (xs (x3 + (1 : Int32)).toNatClampNeg), .int (xs (x3 + (2 : Int32)).toNatClampNeg), .int (xs (x3 + (3 : Int32)).toNatClampNeg), .int (xs (x3 + (4 : Int32)).toNatClampNeg), .int (xs (x3 + (5 : Int32)).toNatClampNeg), .int (xs (x3 + (6 : Int32)).toNatClampNeg), .int (xs (x3 + (7 : Int32)).toNatClampNeg)]) (rest := [.long r9]) hx hb hml hown hts hK zEM_good hzM hAM hA trivial hPM hS 0 (kX7_odds (l := l) (D := D) (a := aM) (cI := cI) (cJ := cJ) (cC := cC) e2 _) (cwV 7 hts gL_law_X7_odds rfl rfl rfl (by decide +kernel) ⟨Nat.le_of_ble_eq_true rfl, Nat.le_of_ble_eq_true rfl⟩) (by decide) (zcM_0 _ _ _ _ _ _) rfl rfl rfl hl.1 rfl (Nat.le_of_ble_eq_true rfl) ⟨Nat.le_of_ble_eq_true rfl, Nat.le_of_ble_eq_true rfl⟩ dL_law_1171) (fun H locs hPM hS hk9 => ?_)
  have hPC := zw_kept hPC (fun i j hi hj => (hdis j i hj hi).symm) hk9
  refine W.lcmp hx hb dL_law_1174 ?_
  exact lv_if_eq (tgt := 1441) hx hb dL_law_1175 (by decide) (fun _ => hend _ _ _ _ hR1 hPC hPM hS ls hl) (fun c9 => absurd (lg_self _) c9)
set_option maxHeartbeats 4000000 in
set_option maxRecDepth 100000 in
theorem law_case25 {p : Program} {l : Launch} {e : Env} {s : State} {m : MethodId} {below : List Frame} {meth : Method} {c : Code} {b L : Nat} {xs : Nat → Int32} {D : va_G} {aC aM adK adV : Nat → Nat} {cI cJ cC : ClassId} {R : ZS → ZS → Prop} (hstep : zStep25 R) (C0 : lw_At p s m meth c b L xs) (Z : zLaw s D aC aM adK adV cI cJ cC) {x3 : Int32} (hin : ∀ k : Nat, k < 8 → vp_in (x3 + nI k) L) {σ τ : ZS} (hR : R σ τ) (H : Heap) (locs : List Loc) (ls : Array Slot) (hPC : va_P D vwCl (zW (zcC aC cI cJ cC) 41 aC σ) H) (hPM : va_P D vwCl (zW (zcM aM cI cJ cC) 17 aM τ) H) (hS : va_S (fun q : Nat => s.heap.size ≤ q) s.heap H locs) (hl : lv_has ls 4 [(0, .ref b), (1, .ref (aC 0)), (2, .ref (aM 0)), (3, .int x3)]) (hend : ∀ (σ τ : ZS) (H : Heap) (locs : List Loc), R σ τ → va_P D vwCl (zW (zcC aC cI cJ cC) 41 aC σ) H → va_P D vwCl (zW (zcM aM cI cJ cC) 17 aM τ) H → va_S (fun q : Nat => s.heap.size ≤ q) s.heap H locs → ∀ ls : Array Slot, lv_has ls 4 [(0, .ref b), (1, .ref (aC 0)), (2, .ref (aM 0)), (3, .int x3)] → W p l e room_1 s m #[Value.ref b] below meth c H locs 58 1286 (lw_Z below #[Value.ref b] s) (F0 m 1441 ls [])) : W p l e room_1 s m #[Value.ref b] below meth c H locs 58 1286 (lw_Z below #[Value.ref b] s) (F0 m 1180 ls []) := by
  obtain ⟨hx, hb, hr, hml, hown, hts0, hX, hbl, hlocks, hgv⟩ := C0
  obtain ⟨hK, hzC, hzM, hdis, hAC, hAM, hE⟩ := Z
  have hK2 : va_K D vwCl [(cI, .int), (cJ, .long)] s := hK.sub [0, 1] rfl
  have hts : ∀ w ∈ wsL_law, w.before #[Value.ref b] s = true := fun w h => hts0 w (wsL_law_in w h)
  have hown : s.vm.findClass RL = some m.cls := hown
  have hA : ∀ q : Nat, s.heap.size ≤ q → (fun q : Nat => s.heap.size ≤ q) q := fun _ h => h
  have hbA : ¬ (fun q : Nat => s.heap.size ≤ q) b := Nat.not_le.mpr hbl
  obtain ⟨r9, σ1, τ1, e1, e2, hR1⟩ := hstep σ τ (xs (x3 + (1 : Int32)).toNatClampNeg) hR
  refine lv_aload_n hx hb dL_law_1180 rfl (lv_at hl 1 rfl) ?_
  refine lv_aload_n hx hb dL_law_1181 rfl (lv_at hl 0 rfl) ?_
  refine lv_iload_n hx hb dL_law_1182 rfl (lv_at hl 3 rfl) ?_
  refine lv_iconst (v := 1) hx hb dL_law_1183 (by decide) ?_
  refine lv_iadd hx hb dL_law_1184 ?_
  refine va_sld hx hb hX hbl hbA hS (hin 1 (by decide)) dL_law_1185 ?_
  refine zw_calli hAC hA hS (zw_run (As := [.int (xs (x3 + (1 : Int32)).toNatClampNeg)]) (rest := []) hx hb hml hown hts hK2 (zEC_good adK adV) hzC hAC hA hE hPC hS 0 (kX6_spell (l := l) (D := D) (a := aC) (cI := cI) (cJ := cJ) (cC := cC) (adK := adK) (adV := adV) e1 _) (cwV 1 hts gL_law_X6_spell rfl rfl rfl (by decide +kernel) ⟨Nat.le_of_ble_eq_true rfl, Nat.le_of_ble_eq_true rfl⟩) (by decide) (zcC_0 _ _ _ _ _ _) rfl rfl rfl hl.1 rfl (Nat.le_of_ble_eq_true rfl) ⟨Nat.le_of_ble_eq_true rfl, Nat.le_of_ble_eq_true rfl⟩ dL_law_1186) (fun H locs hPC hS hk9 => ?_)
  have hPM := zw_kept hPM hdis hk9
  refine lv_aload_n hx hb dL_law_1189 rfl (lv_at hl 2 rfl) ?_
  refine lv_aload_n hx hb dL_law_1190 rfl (lv_at hl 0 rfl) ?_
  refine lv_iload_n hx hb dL_law_1191 rfl (lv_at hl 3 rfl) ?_
  refine lv_iconst (v := 1) hx hb dL_law_1192 (by decide) ?_
  refine lv_iadd hx hb dL_law_1193 ?_
  refine va_sld hx hb hX hbl hbA hS (hin 1 (by decide)) dL_law_1194 ?_
  refine zw_calli hAM hA hS (zw_run (As := [.int (xs (x3 + (1 : Int32)).toNatClampNeg)]) (rest := [.int r9]) hx hb hml hown hts hK zEM_good hzM hAM hA trivial hPM hS 0 (kX7_spell (l := l) (D := D) (a := aM) (cI := cI) (cJ := cJ) (cC := cC) e2 _) (cwV 1 hts gL_law_X7_spell rfl rfl rfl (by decide +kernel) ⟨Nat.le_of_ble_eq_true rfl, Nat.le_of_ble_eq_true rfl⟩) (by decide) (zcM_0 _ _ _ _ _ _) rfl rfl rfl hl.1 rfl (Nat.le_of_ble_eq_true rfl) ⟨Nat.le_of_ble_eq_true rfl, Nat.le_of_ble_eq_true rfl⟩ dL_law_1195) (fun H locs hPM hS hk9 => ?_)
  have hPC := zw_kept hPC (fun i j hi hj => (hdis j i hj hi).symm) hk9
  exact lv_icmp_eq (tgt := 1441) hx hb dL_law_1198 (by decide) (fun _ => hend _ _ _ _ hR1 hPC hPM hS ls hl) (fun c9 => absurd rfl c9)
set_option maxHeartbeats 4000000 in
set_option maxRecDepth 100000 in
theorem law_case26 {p : Program} {l : Launch} {e : Env} {s : State} {m : MethodId} {below : List Frame} {meth : Method} {c : Code} {b L : Nat} {xs : Nat → Int32} {D : va_G} {aC aM adK adV : Nat → Nat} {cI cJ cC : ClassId} {R : ZS → ZS → Prop} (hstep : zStep26 R) (C0 : lw_At p s m meth c b L xs) (Z : zLaw s D aC aM adK adV cI cJ cC) {x3 : Int32} (hin : ∀ k : Nat, k < 8 → vp_in (x3 + nI k) L) {σ τ : ZS} (hR : R σ τ) (H : Heap) (locs : List Loc) (ls : Array Slot) (hPC : va_P D vwCl (zW (zcC aC cI cJ cC) 41 aC σ) H) (hPM : va_P D vwCl (zW (zcM aM cI cJ cC) 17 aM τ) H) (hS : va_S (fun q : Nat => s.heap.size ≤ q) s.heap H locs) (hl : lv_has ls 4 [(0, .ref b), (1, .ref (aC 0)), (2, .ref (aM 0)), (3, .int x3)]) (hend : ∀ (σ τ : ZS) (H : Heap) (locs : List Loc), R σ τ → va_P D vwCl (zW (zcC aC cI cJ cC) 41 aC σ) H → va_P D vwCl (zW (zcM aM cI cJ cC) 17 aM τ) H → va_S (fun q : Nat => s.heap.size ≤ q) s.heap H locs → ∀ ls : Array Slot, lv_has ls 4 [(0, .ref b), (1, .ref (aC 0)), (2, .ref (aM 0)), (3, .int x3)] → W p l e room_1 s m #[Value.ref b] below meth c H locs 58 1286 (lw_Z below #[Value.ref b] s) (F0 m 1441 ls [])) : W p l e room_1 s m #[Value.ref b] below meth c H locs 58 1286 (lw_Z below #[Value.ref b] s) (F0 m 1203 ls []) := by
  obtain ⟨hx, hb, hr, hml, hown, hts0, hX, hbl, hlocks, hgv⟩ := C0
  obtain ⟨hK, hzC, hzM, hdis, hAC, hAM, hE⟩ := Z
  have hK2 : va_K D vwCl [(cI, .int), (cJ, .long)] s := hK.sub [0, 1] rfl
  have hts : ∀ w ∈ wsL_law, w.before #[Value.ref b] s = true := fun w h => hts0 w (wsL_law_in w h)
  have hown : s.vm.findClass RL = some m.cls := hown
  have hA : ∀ q : Nat, s.heap.size ≤ q → (fun q : Nat => s.heap.size ≤ q) q := fun _ h => h
  have hbA : ¬ (fun q : Nat => s.heap.size ≤ q) b := Nat.not_le.mpr hbl
  obtain ⟨r9, σ1, τ1, e1, e2, hR1⟩ := hstep σ τ (xs (x3 + (1 : Int32)).toNatClampNeg) hR
  refine lv_aload_n hx hb dL_law_1203 rfl (lv_at hl 1 rfl) ?_
  refine lv_aload_n hx hb dL_law_1204 rfl (lv_at hl 0 rfl) ?_
  refine lv_iload_n hx hb dL_law_1205 rfl (lv_at hl 3 rfl) ?_
  refine lv_iconst (v := 1) hx hb dL_law_1206 (by decide) ?_
  refine lv_iadd hx hb dL_law_1207 ?_
  refine va_sld hx hb hX hbl hbA hS (hin 1 (by decide)) dL_law_1208 ?_
  refine zw_calli hAC hA hS (zw_run (As := [.int (xs (x3 + (1 : Int32)).toNatClampNeg)]) (rest := []) hx hb hml hown hts hK2 (zEC_good adK adV) hzC hAC hA hE hPC hS 0 (kX6_paper (l := l) (D := D) (a := aC) (cI := cI) (cJ := cJ) (cC := cC) (adK := adK) (adV := adV) e1 _) (cwV 1 hts gL_law_X6_paper rfl rfl rfl (by decide +kernel) ⟨Nat.le_of_ble_eq_true rfl, Nat.le_of_ble_eq_true rfl⟩) (by decide) (zcC_0 _ _ _ _ _ _) rfl rfl rfl hl.1 rfl (Nat.le_of_ble_eq_true rfl) ⟨Nat.le_of_ble_eq_true rfl, Nat.le_of_ble_eq_true rfl⟩ dL_law_1209) (fun H locs hPC hS hk9 => ?_)
  have hPM := zw_kept hPM hdis hk9
  refine lv_aload_n hx hb dL_law_1212 rfl (lv_at hl 2 rfl) ?_
  refine lv_aload_n hx hb dL_law_1213 rfl (lv_at hl 0 rfl) ?_
  refine lv_iload_n hx hb dL_law_1214 rfl (lv_at hl 3 rfl) ?_
  refine lv_iconst (v := 1) hx hb dL_law_1215 (by decide) ?_
  refine lv_iadd hx hb dL_law_1216 ?_
  refine va_sld hx hb hX hbl hbA hS (hin 1 (by decide)) dL_law_1217 ?_
  refine zw_calli hAM hA hS (zw_run (As := [.int (xs (x3 + (1 : Int32)).toNatClampNeg)]) (rest := [.int r9]) hx hb hml hown hts hK zEM_good hzM hAM hA trivial hPM hS 0 (kX7_paper (l := l) (D := D) (a := aM) (cI := cI) (cJ := cJ) (cC := cC) e2 _) (cwV 1 hts gL_law_X7_paper rfl rfl rfl (by decide +kernel) ⟨Nat.le_of_ble_eq_true rfl, Nat.le_of_ble_eq_true rfl⟩) (by decide) (zcM_0 _ _ _ _ _ _) rfl rfl rfl hl.1 rfl (Nat.le_of_ble_eq_true rfl) ⟨Nat.le_of_ble_eq_true rfl, Nat.le_of_ble_eq_true rfl⟩ dL_law_1218) (fun H locs hPM hS hk9 => ?_)
  have hPC := zw_kept hPC (fun i j hi hj => (hdis j i hj hi).symm) hk9
  exact lv_icmp_eq (tgt := 1441) hx hb dL_law_1221 (by decide) (fun _ => hend _ _ _ _ hR1 hPC hPM hS ls hl) (fun c9 => absurd rfl c9)
set_option maxHeartbeats 4000000 in
set_option maxRecDepth 100000 in
theorem law_case27 {p : Program} {l : Launch} {e : Env} {s : State} {m : MethodId} {below : List Frame} {meth : Method} {c : Code} {b L : Nat} {xs : Nat → Int32} {D : va_G} {aC aM adK adV : Nat → Nat} {cI cJ cC : ClassId} {R : ZS → ZS → Prop} (hstep : zStep27 R) (C0 : lw_At p s m meth c b L xs) (Z : zLaw s D aC aM adK adV cI cJ cC) {x3 : Int32} (hin : ∀ k : Nat, k < 8 → vp_in (x3 + nI k) L) {σ τ : ZS} (hR : R σ τ) (H : Heap) (locs : List Loc) (ls : Array Slot) (hPC : va_P D vwCl (zW (zcC aC cI cJ cC) 41 aC σ) H) (hPM : va_P D vwCl (zW (zcM aM cI cJ cC) 17 aM τ) H) (hS : va_S (fun q : Nat => s.heap.size ≤ q) s.heap H locs) (hl : lv_has ls 4 [(0, .ref b), (1, .ref (aC 0)), (2, .ref (aM 0)), (3, .int x3)]) (hend : ∀ (σ τ : ZS) (H : Heap) (locs : List Loc), R σ τ → va_P D vwCl (zW (zcC aC cI cJ cC) 41 aC σ) H → va_P D vwCl (zW (zcM aM cI cJ cC) 17 aM τ) H → va_S (fun q : Nat => s.heap.size ≤ q) s.heap H locs → ∀ ls : Array Slot, lv_has ls 4 [(0, .ref b), (1, .ref (aC 0)), (2, .ref (aM 0)), (3, .int x3)] → W p l e room_1 s m #[Value.ref b] below meth c H locs 58 1286 (lw_Z below #[Value.ref b] s) (F0 m 1441 ls [])) : W p l e room_1 s m #[Value.ref b] below meth c H locs 58 1286 (lw_Z below #[Value.ref b] s) (F0 m 1226 ls []) := by
  obtain ⟨hx, hb, hr, hml, hown, hts0, hX, hbl, hlocks, hgv⟩ := C0
  obtain ⟨hK, hzC, hzM, hdis, hAC, hAM, hE⟩ := Z
  have hK2 : va_K D vwCl [(cI, .int), (cJ, .long)] s := hK.sub [0, 1] rfl
  have hts : ∀ w ∈ wsL_law, w.before #[Value.ref b] s = true := fun w h => hts0 w (wsL_law_in w h)
  have hown : s.vm.findClass RL = some m.cls := hown
  have hA : ∀ q : Nat, s.heap.size ≤ q → (fun q : Nat => s.heap.size ≤ q) q := fun _ h => h
  have hbA : ¬ (fun q : Nat => s.heap.size ≤ q) b := Nat.not_le.mpr hbl
  obtain ⟨r9, σ1, τ1, e1, e2, hR1⟩ := hstep σ τ (xs (x3 + (1 : Int32)).toNatClampNeg) (xs (x3 + (2 : Int32)).toNatClampNeg) hR
  refine lv_aload_n hx hb dL_law_1226 rfl (lv_at hl 1 rfl) ?_
  refine lv_aload_n hx hb dL_law_1227 rfl (lv_at hl 0 rfl) ?_
  refine lv_iload_n hx hb dL_law_1228 rfl (lv_at hl 3 rfl) ?_
  refine lv_iconst (v := 1) hx hb dL_law_1229 (by decide) ?_
  refine lv_iadd hx hb dL_law_1230 ?_
  refine va_sld hx hb hX hbl hbA hS (hin 1 (by decide)) dL_law_1231 ?_
  refine lv_aload_n hx hb dL_law_1232 rfl (lv_at hl 0 rfl) ?_
  refine lv_iload_n hx hb dL_law_1233 rfl (lv_at hl 3 rfl) ?_
  refine lv_iconst (v := 2) hx hb dL_law_1234 (by decide) ?_
  refine lv_iadd hx hb dL_law_1235 ?_
  refine va_sld hx hb hX hbl hbA hS (hin 2 (by decide)) dL_law_1236 ?_
  refine zw_calli hAC hA hS (zw_run (As := [.int (xs (x3 + (1 : Int32)).toNatClampNeg), .int (xs (x3 + (2 : Int32)).toNatClampNeg)]) (rest := []) hx hb hml hown hts hK2 (zEC_good adK adV) hzC hAC hA hE hPC hS 0 (kX6_judge (l := l) (D := D) (a := aC) (cI := cI) (cJ := cJ) (cC := cC) (adK := adK) (adV := adV) e1 _) (cwV 2 hts gL_law_X6_judge rfl rfl rfl (by decide +kernel) ⟨Nat.le_of_ble_eq_true rfl, Nat.le_of_ble_eq_true rfl⟩) (by decide) (zcC_0 _ _ _ _ _ _) rfl rfl rfl hl.1 rfl (Nat.le_of_ble_eq_true rfl) ⟨Nat.le_of_ble_eq_true rfl, Nat.le_of_ble_eq_true rfl⟩ dL_law_1237) (fun H locs hPC hS hk9 => ?_)
  have hPM := zw_kept hPM hdis hk9
  refine lv_aload_n hx hb dL_law_1240 rfl (lv_at hl 2 rfl) ?_
  refine lv_aload_n hx hb dL_law_1241 rfl (lv_at hl 0 rfl) ?_
  refine lv_iload_n hx hb dL_law_1242 rfl (lv_at hl 3 rfl) ?_
  refine lv_iconst (v := 1) hx hb dL_law_1243 (by decide) ?_
  refine lv_iadd hx hb dL_law_1244 ?_
  refine va_sld hx hb hX hbl hbA hS (hin 1 (by decide)) dL_law_1245 ?_
  refine lv_aload_n hx hb dL_law_1246 rfl (lv_at hl 0 rfl) ?_
  refine lv_iload_n hx hb dL_law_1247 rfl (lv_at hl 3 rfl) ?_
  refine lv_iconst (v := 2) hx hb dL_law_1248 (by decide) ?_
  refine lv_iadd hx hb dL_law_1249 ?_
  refine va_sld hx hb hX hbl hbA hS (hin 2 (by decide)) dL_law_1250 ?_
  refine zw_calli hAM hA hS (zw_run (As := [.int (xs (x3 + (1 : Int32)).toNatClampNeg), .int (xs (x3 + (2 : Int32)).toNatClampNeg)]) (rest := [.int r9]) hx hb hml hown hts hK zEM_good hzM hAM hA trivial hPM hS 0 (kX7_judge (l := l) (D := D) (a := aM) (cI := cI) (cJ := cJ) (cC := cC) e2 _) (cwV 2 hts gL_law_X7_judge rfl rfl rfl (by decide +kernel) ⟨Nat.le_of_ble_eq_true rfl, Nat.le_of_ble_eq_true rfl⟩) (by decide) (zcM_0 _ _ _ _ _ _) rfl rfl rfl hl.1 rfl (Nat.le_of_ble_eq_true rfl) ⟨Nat.le_of_ble_eq_true rfl, Nat.le_of_ble_eq_true rfl⟩ dL_law_1251) (fun H locs hPM hS hk9 => ?_)
  have hPC := zw_kept hPC (fun i j hi hj => (hdis j i hj hi).symm) hk9
  exact lv_icmp_eq (tgt := 1441) hx hb dL_law_1254 (by decide) (fun _ => hend _ _ _ _ hR1 hPC hPM hS ls hl) (fun c9 => absurd rfl c9)
set_option maxHeartbeats 4000000 in
set_option maxRecDepth 100000 in
theorem law_case28 {p : Program} {l : Launch} {e : Env} {s : State} {m : MethodId} {below : List Frame} {meth : Method} {c : Code} {b L : Nat} {xs : Nat → Int32} {D : va_G} {aC aM adK adV : Nat → Nat} {cI cJ cC : ClassId} {R : ZS → ZS → Prop} (hstep : zStep28 R) (C0 : lw_At p s m meth c b L xs) (Z : zLaw s D aC aM adK adV cI cJ cC) {x3 : Int32} (hin : ∀ k : Nat, k < 8 → vp_in (x3 + nI k) L) {σ τ : ZS} (hR : R σ τ) (H : Heap) (locs : List Loc) (ls : Array Slot) (hPC : va_P D vwCl (zW (zcC aC cI cJ cC) 41 aC σ) H) (hPM : va_P D vwCl (zW (zcM aM cI cJ cC) 17 aM τ) H) (hS : va_S (fun q : Nat => s.heap.size ≤ q) s.heap H locs) (hl : lv_has ls 4 [(0, .ref b), (1, .ref (aC 0)), (2, .ref (aM 0)), (3, .int x3)]) (hend : ∀ (σ τ : ZS) (H : Heap) (locs : List Loc), R σ τ → va_P D vwCl (zW (zcC aC cI cJ cC) 41 aC σ) H → va_P D vwCl (zW (zcM aM cI cJ cC) 17 aM τ) H → va_S (fun q : Nat => s.heap.size ≤ q) s.heap H locs → ∀ ls : Array Slot, lv_has ls 4 [(0, .ref b), (1, .ref (aC 0)), (2, .ref (aM 0)), (3, .int x3)] → W p l e room_1 s m #[Value.ref b] below meth c H locs 58 1286 (lw_Z below #[Value.ref b] s) (F0 m 1441 ls [])) : W p l e room_1 s m #[Value.ref b] below meth c H locs 58 1286 (lw_Z below #[Value.ref b] s) (F0 m 1259 ls []) := by
  obtain ⟨hx, hb, hr, hml, hown, hts0, hX, hbl, hlocks, hgv⟩ := C0
  obtain ⟨hK, hzC, hzM, hdis, hAC, hAM, hE⟩ := Z
  have hK2 : va_K D vwCl [(cI, .int), (cJ, .long)] s := hK.sub [0, 1] rfl
  have hts : ∀ w ∈ wsL_law, w.before #[Value.ref b] s = true := fun w h => hts0 w (wsL_law_in w h)
  have hown : s.vm.findClass RL = some m.cls := hown
  have hA : ∀ q : Nat, s.heap.size ≤ q → (fun q : Nat => s.heap.size ≤ q) q := fun _ h => h
  have hbA : ¬ (fun q : Nat => s.heap.size ≤ q) b := Nat.not_le.mpr hbl
  obtain ⟨r9, σ1, τ1, e1, e2, hR1⟩ := hstep σ τ (xs (x3 + (1 : Int32)).toNatClampNeg) hR
  refine lv_aload_n hx hb dL_law_1259 rfl (lv_at hl 1 rfl) ?_
  refine lv_aload_n hx hb dL_law_1260 rfl (lv_at hl 0 rfl) ?_
  refine lv_iload_n hx hb dL_law_1261 rfl (lv_at hl 3 rfl) ?_
  refine lv_iconst (v := 1) hx hb dL_law_1262 (by decide) ?_
  refine lv_iadd hx hb dL_law_1263 ?_
  refine va_sld hx hb hX hbl hbA hS (hin 1 (by decide)) dL_law_1264 ?_
  refine zw_calli hAC hA hS (zw_run (As := [.int (xs (x3 + (1 : Int32)).toNatClampNeg)]) (rest := []) hx hb hml hown hts hK2 (zEC_good adK adV) hzC hAC hA hE hPC hS 0 (kX6_change (l := l) (D := D) (a := aC) (cI := cI) (cJ := cJ) (cC := cC) (adK := adK) (adV := adV) e1 _) (cwV 1 hts gL_law_X6_change rfl rfl rfl (by decide +kernel) ⟨Nat.le_of_ble_eq_true rfl, Nat.le_of_ble_eq_true rfl⟩) (by decide) (zcC_0 _ _ _ _ _ _) rfl rfl rfl hl.1 rfl (Nat.le_of_ble_eq_true rfl) ⟨Nat.le_of_ble_eq_true rfl, Nat.le_of_ble_eq_true rfl⟩ dL_law_1265) (fun H locs hPC hS hk9 => ?_)
  have hPM := zw_kept hPM hdis hk9
  refine lv_aload_n hx hb dL_law_1268 rfl (lv_at hl 2 rfl) ?_
  refine lv_aload_n hx hb dL_law_1269 rfl (lv_at hl 0 rfl) ?_
  refine lv_iload_n hx hb dL_law_1270 rfl (lv_at hl 3 rfl) ?_
  refine lv_iconst (v := 1) hx hb dL_law_1271 (by decide) ?_
  refine lv_iadd hx hb dL_law_1272 ?_
  refine va_sld hx hb hX hbl hbA hS (hin 1 (by decide)) dL_law_1273 ?_
  refine zw_calli hAM hA hS (zw_run (As := [.int (xs (x3 + (1 : Int32)).toNatClampNeg)]) (rest := [.int r9]) hx hb hml hown hts hK zEM_good hzM hAM hA trivial hPM hS 0 (kX7_change (l := l) (D := D) (a := aM) (cI := cI) (cJ := cJ) (cC := cC) e2 _) (cwV 1 hts gL_law_X7_change rfl rfl rfl (by decide +kernel) ⟨Nat.le_of_ble_eq_true rfl, Nat.le_of_ble_eq_true rfl⟩) (by decide) (zcM_0 _ _ _ _ _ _) rfl rfl rfl hl.1 rfl (Nat.le_of_ble_eq_true rfl) ⟨Nat.le_of_ble_eq_true rfl, Nat.le_of_ble_eq_true rfl⟩ dL_law_1274) (fun H locs hPM hS hk9 => ?_)
  have hPC := zw_kept hPC (fun i j hi hj => (hdis j i hj hi).symm) hk9
  exact lv_icmp_eq (tgt := 1441) hx hb dL_law_1277 (by decide) (fun _ => hend _ _ _ _ hR1 hPC hPM hS ls hl) (fun c9 => absurd rfl c9)
set_option maxHeartbeats 4000000 in
set_option maxRecDepth 100000 in
theorem law_case29 {p : Program} {l : Launch} {e : Env} {s : State} {m : MethodId} {below : List Frame} {meth : Method} {c : Code} {b L : Nat} {xs : Nat → Int32} {D : va_G} {aC aM adK adV : Nat → Nat} {cI cJ cC : ClassId} {R : ZS → ZS → Prop} (hstep : zStep29 R) (C0 : lw_At p s m meth c b L xs) (Z : zLaw s D aC aM adK adV cI cJ cC) {x3 : Int32} (hin : ∀ k : Nat, k < 8 → vp_in (x3 + nI k) L) {σ τ : ZS} (hR : R σ τ) (H : Heap) (locs : List Loc) (ls : Array Slot) (hPC : va_P D vwCl (zW (zcC aC cI cJ cC) 41 aC σ) H) (hPM : va_P D vwCl (zW (zcM aM cI cJ cC) 17 aM τ) H) (hS : va_S (fun q : Nat => s.heap.size ≤ q) s.heap H locs) (hl : lv_has ls 4 [(0, .ref b), (1, .ref (aC 0)), (2, .ref (aM 0)), (3, .int x3)]) (hend : ∀ (σ τ : ZS) (H : Heap) (locs : List Loc), R σ τ → va_P D vwCl (zW (zcC aC cI cJ cC) 41 aC σ) H → va_P D vwCl (zW (zcM aM cI cJ cC) 17 aM τ) H → va_S (fun q : Nat => s.heap.size ≤ q) s.heap H locs → ∀ ls : Array Slot, lv_has ls 4 [(0, .ref b), (1, .ref (aC 0)), (2, .ref (aM 0)), (3, .int x3)] → W p l e room_1 s m #[Value.ref b] below meth c H locs 58 1286 (lw_Z below #[Value.ref b] s) (F0 m 1441 ls [])) : W p l e room_1 s m #[Value.ref b] below meth c H locs 58 1286 (lw_Z below #[Value.ref b] s) (F0 m 1282 ls []) := by
  obtain ⟨hx, hb, hr, hml, hown, hts0, hX, hbl, hlocks, hgv⟩ := C0
  obtain ⟨hK, hzC, hzM, hdis, hAC, hAM, hE⟩ := Z
  have hK2 : va_K D vwCl [(cI, .int), (cJ, .long)] s := hK.sub [0, 1] rfl
  have hts : ∀ w ∈ wsL_law, w.before #[Value.ref b] s = true := fun w h => hts0 w (wsL_law_in w h)
  have hown : s.vm.findClass RL = some m.cls := hown
  have hA : ∀ q : Nat, s.heap.size ≤ q → (fun q : Nat => s.heap.size ≤ q) q := fun _ h => h
  have hbA : ¬ (fun q : Nat => s.heap.size ≤ q) b := Nat.not_le.mpr hbl
  obtain ⟨r9, σ1, τ1, e1, e2, hR1⟩ := hstep σ τ (xs (x3 + (1 : Int32)).toNatClampNeg) (xs (x3 + (2 : Int32)).toNatClampNeg) hR
  refine lv_aload_n hx hb dL_law_1282 rfl (lv_at hl 1 rfl) ?_
  refine lv_aload_n hx hb dL_law_1283 rfl (lv_at hl 0 rfl) ?_
  refine lv_iload_n hx hb dL_law_1284 rfl (lv_at hl 3 rfl) ?_
  refine lv_iconst (v := 1) hx hb dL_law_1285 (by decide) ?_
  refine lv_iadd hx hb dL_law_1286 ?_
  refine va_sld hx hb hX hbl hbA hS (hin 1 (by decide)) dL_law_1287 ?_
  refine lv_aload_n hx hb dL_law_1288 rfl (lv_at hl 0 rfl) ?_
  refine lv_iload_n hx hb dL_law_1289 rfl (lv_at hl 3 rfl) ?_
  refine lv_iconst (v := 2) hx hb dL_law_1290 (by decide) ?_
  refine lv_iadd hx hb dL_law_1291 ?_
  refine va_sld hx hb hX hbl hbA hS (hin 2 (by decide)) dL_law_1292 ?_
  refine zw_calli hAC hA hS (zw_run (As := [.int (xs (x3 + (1 : Int32)).toNatClampNeg), .int (xs (x3 + (2 : Int32)).toNatClampNeg)]) (rest := []) hx hb hml hown hts hK2 (zEC_good adK adV) hzC hAC hA hE hPC hS 0 (kX6_list (l := l) (D := D) (a := aC) (cI := cI) (cJ := cJ) (cC := cC) (adK := adK) (adV := adV) e1 _) (cwV 2 hts gL_law_X6_list rfl rfl rfl (by decide +kernel) ⟨Nat.le_of_ble_eq_true rfl, Nat.le_of_ble_eq_true rfl⟩) (by decide) (zcC_0 _ _ _ _ _ _) rfl rfl rfl hl.1 rfl (Nat.le_of_ble_eq_true rfl) ⟨Nat.le_of_ble_eq_true rfl, Nat.le_of_ble_eq_true rfl⟩ dL_law_1293) (fun H locs hPC hS hk9 => ?_)
  have hPM := zw_kept hPM hdis hk9
  refine lv_aload_n hx hb dL_law_1296 rfl (lv_at hl 2 rfl) ?_
  refine lv_aload_n hx hb dL_law_1297 rfl (lv_at hl 0 rfl) ?_
  refine lv_iload_n hx hb dL_law_1298 rfl (lv_at hl 3 rfl) ?_
  refine lv_iconst (v := 1) hx hb dL_law_1299 (by decide) ?_
  refine lv_iadd hx hb dL_law_1300 ?_
  refine va_sld hx hb hX hbl hbA hS (hin 1 (by decide)) dL_law_1301 ?_
  refine lv_aload_n hx hb dL_law_1302 rfl (lv_at hl 0 rfl) ?_
  refine lv_iload_n hx hb dL_law_1303 rfl (lv_at hl 3 rfl) ?_
  refine lv_iconst (v := 2) hx hb dL_law_1304 (by decide) ?_
  refine lv_iadd hx hb dL_law_1305 ?_
  refine va_sld hx hb hX hbl hbA hS (hin 2 (by decide)) dL_law_1306 ?_
  refine zw_calli hAM hA hS (zw_run (As := [.int (xs (x3 + (1 : Int32)).toNatClampNeg), .int (xs (x3 + (2 : Int32)).toNatClampNeg)]) (rest := [.int r9]) hx hb hml hown hts hK zEM_good hzM hAM hA trivial hPM hS 0 (kX7_list (l := l) (D := D) (a := aM) (cI := cI) (cJ := cJ) (cC := cC) e2 _) (cwV 2 hts gL_law_X7_list rfl rfl rfl (by decide +kernel) ⟨Nat.le_of_ble_eq_true rfl, Nat.le_of_ble_eq_true rfl⟩) (by decide) (zcM_0 _ _ _ _ _ _) rfl rfl rfl hl.1 rfl (Nat.le_of_ble_eq_true rfl) ⟨Nat.le_of_ble_eq_true rfl, Nat.le_of_ble_eq_true rfl⟩ dL_law_1307) (fun H locs hPM hS hk9 => ?_)
  have hPC := zw_kept hPC (fun i j hi hj => (hdis j i hj hi).symm) hk9
  exact lv_icmp_eq (tgt := 1441) hx hb dL_law_1310 (by decide) (fun _ => hend _ _ _ _ hR1 hPC hPM hS ls hl) (fun c9 => absurd rfl c9)
set_option maxHeartbeats 4000000 in
set_option maxRecDepth 100000 in
theorem law_case30 {p : Program} {l : Launch} {e : Env} {s : State} {m : MethodId} {below : List Frame} {meth : Method} {c : Code} {b L : Nat} {xs : Nat → Int32} {D : va_G} {aC aM adK adV : Nat → Nat} {cI cJ cC : ClassId} {R : ZS → ZS → Prop} (hstep : zStep30 R) (C0 : lw_At p s m meth c b L xs) (Z : zLaw s D aC aM adK adV cI cJ cC) {x3 : Int32} (hin : ∀ k : Nat, k < 8 → vp_in (x3 + nI k) L) {σ τ : ZS} (hR : R σ τ) (H : Heap) (locs : List Loc) (ls : Array Slot) (hPC : va_P D vwCl (zW (zcC aC cI cJ cC) 41 aC σ) H) (hPM : va_P D vwCl (zW (zcM aM cI cJ cC) 17 aM τ) H) (hS : va_S (fun q : Nat => s.heap.size ≤ q) s.heap H locs) (hl : lv_has ls 4 [(0, .ref b), (1, .ref (aC 0)), (2, .ref (aM 0)), (3, .int x3)]) (hend : ∀ (σ τ : ZS) (H : Heap) (locs : List Loc), R σ τ → va_P D vwCl (zW (zcC aC cI cJ cC) 41 aC σ) H → va_P D vwCl (zW (zcM aM cI cJ cC) 17 aM τ) H → va_S (fun q : Nat => s.heap.size ≤ q) s.heap H locs → ∀ ls : Array Slot, lv_has ls 4 [(0, .ref b), (1, .ref (aC 0)), (2, .ref (aM 0)), (3, .int x3)] → W p l e room_1 s m #[Value.ref b] below meth c H locs 58 1286 (lw_Z below #[Value.ref b] s) (F0 m 1441 ls [])) : W p l e room_1 s m #[Value.ref b] below meth c H locs 58 1286 (lw_Z below #[Value.ref b] s) (F0 m 1315 ls []) := by
  obtain ⟨hx, hb, hr, hml, hown, hts0, hX, hbl, hlocks, hgv⟩ := C0
  obtain ⟨hK, hzC, hzM, hdis, hAC, hAM, hE⟩ := Z
  have hK2 : va_K D vwCl [(cI, .int), (cJ, .long)] s := hK.sub [0, 1] rfl
  have hts : ∀ w ∈ wsL_law, w.before #[Value.ref b] s = true := fun w h => hts0 w (wsL_law_in w h)
  have hown : s.vm.findClass RL = some m.cls := hown
  have hA : ∀ q : Nat, s.heap.size ≤ q → (fun q : Nat => s.heap.size ≤ q) q := fun _ h => h
  have hbA : ¬ (fun q : Nat => s.heap.size ≤ q) b := Nat.not_le.mpr hbl
  obtain ⟨r9, σ1, τ1, e1, e2, hR1⟩ := hstep σ τ (xs (x3 + (1 : Int32)).toNatClampNeg) (xs (x3 + (2 : Int32)).toNatClampNeg) (xs (x3 + (3 : Int32)).toNatClampNeg) hR
  refine lv_aload_n hx hb dL_law_1315 rfl (lv_at hl 1 rfl) ?_
  refine lv_aload_n hx hb dL_law_1316 rfl (lv_at hl 0 rfl) ?_
  refine lv_iload_n hx hb dL_law_1317 rfl (lv_at hl 3 rfl) ?_
  refine lv_iconst (v := 1) hx hb dL_law_1318 (by decide) ?_
  refine lv_iadd hx hb dL_law_1319 ?_
  refine va_sld hx hb hX hbl hbA hS (hin 1 (by decide)) dL_law_1320 ?_
  refine lv_aload_n hx hb dL_law_1321 rfl (lv_at hl 0 rfl) ?_
  refine lv_iload_n hx hb dL_law_1322 rfl (lv_at hl 3 rfl) ?_
  refine lv_iconst (v := 2) hx hb dL_law_1323 (by decide) ?_
  refine lv_iadd hx hb dL_law_1324 ?_
  refine va_sld hx hb hX hbl hbA hS (hin 2 (by decide)) dL_law_1325 ?_
  refine lv_aload_n hx hb dL_law_1326 rfl (lv_at hl 0 rfl) ?_
  refine lv_iload_n hx hb dL_law_1327 rfl (lv_at hl 3 rfl) ?_
  refine lv_iconst (v := 3) hx hb dL_law_1328 (by decide) ?_
  refine lv_iadd hx hb dL_law_1329 ?_
  refine va_sld hx hb hX hbl hbA hS (hin 3 (by decide)) dL_law_1330 ?_
  refine zw_calli hAC hA hS (zw_run (As := [.int (xs (x3 + (1 : Int32)).toNatClampNeg), .int (xs (x3 + (2 : Int32)).toNatClampNeg), .int (xs (x3 + (3 : Int32)).toNatClampNeg)]) (rest := []) hx hb hml hown hts hK2 (zEC_good adK adV) hzC hAC hA hE hPC hS 0 (kX6_put (l := l) (D := D) (a := aC) (cI := cI) (cJ := cJ) (cC := cC) (adK := adK) (adV := adV) e1 _) (cwV 3 hts gL_law_X6_put rfl rfl rfl (by decide +kernel) ⟨Nat.le_of_ble_eq_true rfl, Nat.le_of_ble_eq_true rfl⟩) (by decide) (zcC_0 _ _ _ _ _ _) rfl rfl rfl hl.1 rfl (Nat.le_of_ble_eq_true rfl) ⟨Nat.le_of_ble_eq_true rfl, Nat.le_of_ble_eq_true rfl⟩ dL_law_1331) (fun H locs hPC hS hk9 => ?_)
  have hPM := zw_kept hPM hdis hk9
  refine lv_aload_n hx hb dL_law_1334 rfl (lv_at hl 2 rfl) ?_
  refine lv_aload_n hx hb dL_law_1335 rfl (lv_at hl 0 rfl) ?_
  refine lv_iload_n hx hb dL_law_1336 rfl (lv_at hl 3 rfl) ?_
  refine lv_iconst (v := 1) hx hb dL_law_1337 (by decide) ?_
  refine lv_iadd hx hb dL_law_1338 ?_
  refine va_sld hx hb hX hbl hbA hS (hin 1 (by decide)) dL_law_1339 ?_
  refine lv_aload_n hx hb dL_law_1340 rfl (lv_at hl 0 rfl) ?_
  refine lv_iload_n hx hb dL_law_1341 rfl (lv_at hl 3 rfl) ?_
  refine lv_iconst (v := 2) hx hb dL_law_1342 (by decide) ?_
  refine lv_iadd hx hb dL_law_1343 ?_
  refine va_sld hx hb hX hbl hbA hS (hin 2 (by decide)) dL_law_1344 ?_
  refine lv_aload_n hx hb dL_law_1345 rfl (lv_at hl 0 rfl) ?_
  refine lv_iload_n hx hb dL_law_1346 rfl (lv_at hl 3 rfl) ?_
  refine lv_iconst (v := 3) hx hb dL_law_1347 (by decide) ?_
  refine lv_iadd hx hb dL_law_1348 ?_
  refine va_sld hx hb hX hbl hbA hS (hin 3 (by decide)) dL_law_1349 ?_
  refine zw_calli hAM hA hS (zw_run (As := [.int (xs (x3 + (1 : Int32)).toNatClampNeg), .int (xs (x3 + (2 : Int32)).toNatClampNeg), .int (xs (x3 + (3 : Int32)).toNatClampNeg)]) (rest := [.int r9]) hx hb hml hown hts hK zEM_good hzM hAM hA trivial hPM hS 0 (kX7_put (l := l) (D := D) (a := aM) (cI := cI) (cJ := cJ) (cC := cC) e2 _) (cwV 3 hts gL_law_X7_put rfl rfl rfl (by decide +kernel) ⟨Nat.le_of_ble_eq_true rfl, Nat.le_of_ble_eq_true rfl⟩) (by decide) (zcM_0 _ _ _ _ _ _) rfl rfl rfl hl.1 rfl (Nat.le_of_ble_eq_true rfl) ⟨Nat.le_of_ble_eq_true rfl, Nat.le_of_ble_eq_true rfl⟩ dL_law_1350) (fun H locs hPM hS hk9 => ?_)
  have hPC := zw_kept hPC (fun i j hi hj => (hdis j i hj hi).symm) hk9
  exact lv_icmp_eq (tgt := 1441) hx hb dL_law_1353 (by decide) (fun _ => hend _ _ _ _ hR1 hPC hPM hS ls hl) (fun c9 => absurd rfl c9)
set_option maxHeartbeats 4000000 in
set_option maxRecDepth 100000 in
theorem law_case31 {p : Program} {l : Launch} {e : Env} {s : State} {m : MethodId} {below : List Frame} {meth : Method} {c : Code} {b L : Nat} {xs : Nat → Int32} {D : va_G} {aC aM adK adV : Nat → Nat} {cI cJ cC : ClassId} {R : ZS → ZS → Prop} (hstep : zStep31 R) (C0 : lw_At p s m meth c b L xs) (Z : zLaw s D aC aM adK adV cI cJ cC) {x3 : Int32} (hin : ∀ k : Nat, k < 8 → vp_in (x3 + nI k) L) {σ τ : ZS} (hR : R σ τ) (H : Heap) (locs : List Loc) (ls : Array Slot) (hPC : va_P D vwCl (zW (zcC aC cI cJ cC) 41 aC σ) H) (hPM : va_P D vwCl (zW (zcM aM cI cJ cC) 17 aM τ) H) (hS : va_S (fun q : Nat => s.heap.size ≤ q) s.heap H locs) (hl : lv_has ls 4 [(0, .ref b), (1, .ref (aC 0)), (2, .ref (aM 0)), (3, .int x3)]) (hend : ∀ (σ τ : ZS) (H : Heap) (locs : List Loc), R σ τ → va_P D vwCl (zW (zcC aC cI cJ cC) 41 aC σ) H → va_P D vwCl (zW (zcM aM cI cJ cC) 17 aM τ) H → va_S (fun q : Nat => s.heap.size ≤ q) s.heap H locs → ∀ ls : Array Slot, lv_has ls 4 [(0, .ref b), (1, .ref (aC 0)), (2, .ref (aM 0)), (3, .int x3)] → W p l e room_1 s m #[Value.ref b] below meth c H locs 58 1286 (lw_Z below #[Value.ref b] s) (F0 m 1441 ls [])) : W p l e room_1 s m #[Value.ref b] below meth c H locs 58 1286 (lw_Z below #[Value.ref b] s) (F0 m 1358 ls []) := by
  obtain ⟨hx, hb, hr, hml, hown, hts0, hX, hbl, hlocks, hgv⟩ := C0
  obtain ⟨hK, hzC, hzM, hdis, hAC, hAM, hE⟩ := Z
  have hK2 : va_K D vwCl [(cI, .int), (cJ, .long)] s := hK.sub [0, 1] rfl
  have hts : ∀ w ∈ wsL_law, w.before #[Value.ref b] s = true := fun w h => hts0 w (wsL_law_in w h)
  have hown : s.vm.findClass RL = some m.cls := hown
  have hA : ∀ q : Nat, s.heap.size ≤ q → (fun q : Nat => s.heap.size ≤ q) q := fun _ h => h
  have hbA : ¬ (fun q : Nat => s.heap.size ≤ q) b := Nat.not_le.mpr hbl
  obtain ⟨r9, σ1, τ1, e1, e2, hR1⟩ := hstep σ τ (xs (x3 + (1 : Int32)).toNatClampNeg) (xs (x3 + (2 : Int32)).toNatClampNeg) hR
  refine lv_aload_n hx hb dL_law_1358 rfl (lv_at hl 1 rfl) ?_
  refine lv_aload_n hx hb dL_law_1359 rfl (lv_at hl 0 rfl) ?_
  refine lv_iload_n hx hb dL_law_1360 rfl (lv_at hl 3 rfl) ?_
  refine lv_iconst (v := 1) hx hb dL_law_1361 (by decide) ?_
  refine lv_iadd hx hb dL_law_1362 ?_
  refine va_sld hx hb hX hbl hbA hS (hin 1 (by decide)) dL_law_1363 ?_
  refine lv_aload_n hx hb dL_law_1364 rfl (lv_at hl 0 rfl) ?_
  refine lv_iload_n hx hb dL_law_1365 rfl (lv_at hl 3 rfl) ?_
  refine lv_iconst (v := 2) hx hb dL_law_1366 (by decide) ?_
  refine lv_iadd hx hb dL_law_1367 ?_
  refine va_sld hx hb hX hbl hbA hS (hin 2 (by decide)) dL_law_1368 ?_
  refine zw_calll hAC hA hS (zw_run (As := [.int (xs (x3 + (1 : Int32)).toNatClampNeg), .int (xs (x3 + (2 : Int32)).toNatClampNeg)]) (rest := []) hx hb hml hown hts hK2 (zEC_good adK adV) hzC hAC hA hE hPC hS 0 (kX6_get (l := l) (D := D) (a := aC) (cI := cI) (cJ := cJ) (cC := cC) (adK := adK) (adV := adV) e1 _) (cwV 2 hts gL_law_X6_get rfl rfl rfl (by decide +kernel) ⟨Nat.le_of_ble_eq_true rfl, Nat.le_of_ble_eq_true rfl⟩) (by decide) (zcC_0 _ _ _ _ _ _) rfl rfl rfl hl.1 rfl (Nat.le_of_ble_eq_true rfl) ⟨Nat.le_of_ble_eq_true rfl, Nat.le_of_ble_eq_true rfl⟩ dL_law_1369) (fun H locs hPC hS hk9 => ?_)
  have hPM := zw_kept hPM hdis hk9
  refine lv_aload_n hx hb dL_law_1372 rfl (lv_at hl 2 rfl) ?_
  refine lv_aload_n hx hb dL_law_1373 rfl (lv_at hl 0 rfl) ?_
  refine lv_iload_n hx hb dL_law_1374 rfl (lv_at hl 3 rfl) ?_
  refine lv_iconst (v := 1) hx hb dL_law_1375 (by decide) ?_
  refine lv_iadd hx hb dL_law_1376 ?_
  refine va_sld hx hb hX hbl hbA hS (hin 1 (by decide)) dL_law_1377 ?_
  refine lv_aload_n hx hb dL_law_1378 rfl (lv_at hl 0 rfl) ?_
  refine lv_iload_n hx hb dL_law_1379 rfl (lv_at hl 3 rfl) ?_
  refine lv_iconst (v := 2) hx hb dL_law_1380 (by decide) ?_
  refine lv_iadd hx hb dL_law_1381 ?_
  refine va_sld hx hb hX hbl hbA hS (hin 2 (by decide)) dL_law_1382 ?_
  refine zw_calll hAM hA hS (zw_run (As := [.int (xs (x3 + (1 : Int32)).toNatClampNeg), .int (xs (x3 + (2 : Int32)).toNatClampNeg)]) (rest := [.long r9]) hx hb hml hown hts hK zEM_good hzM hAM hA trivial hPM hS 0 (kX7_get (l := l) (D := D) (a := aM) (cI := cI) (cJ := cJ) (cC := cC) e2 _) (cwV 2 hts gL_law_X7_get rfl rfl rfl (by decide +kernel) ⟨Nat.le_of_ble_eq_true rfl, Nat.le_of_ble_eq_true rfl⟩) (by decide) (zcM_0 _ _ _ _ _ _) rfl rfl rfl hl.1 rfl (Nat.le_of_ble_eq_true rfl) ⟨Nat.le_of_ble_eq_true rfl, Nat.le_of_ble_eq_true rfl⟩ dL_law_1383) (fun H locs hPM hS hk9 => ?_)
  have hPC := zw_kept hPC (fun i j hi hj => (hdis j i hj hi).symm) hk9
  refine W.lcmp hx hb dL_law_1386 ?_
  exact lv_if_eq (tgt := 1441) hx hb dL_law_1387 (by decide) (fun _ => hend _ _ _ _ hR1 hPC hPM hS ls hl) (fun c9 => absurd (lg_self _) c9)
set_option maxHeartbeats 4000000 in
set_option maxRecDepth 100000 in
theorem law_case32 {p : Program} {l : Launch} {e : Env} {s : State} {m : MethodId} {below : List Frame} {meth : Method} {c : Code} {b L : Nat} {xs : Nat → Int32} {D : va_G} {aC aM adK adV : Nat → Nat} {cI cJ cC : ClassId} {R : ZS → ZS → Prop} (hstep : zStep32 R) (C0 : lw_At p s m meth c b L xs) (Z : zLaw s D aC aM adK adV cI cJ cC) {x3 : Int32} (hin : ∀ k : Nat, k < 8 → vp_in (x3 + nI k) L) {σ τ : ZS} (hR : R σ τ) (H : Heap) (locs : List Loc) (ls : Array Slot) (hPC : va_P D vwCl (zW (zcC aC cI cJ cC) 41 aC σ) H) (hPM : va_P D vwCl (zW (zcM aM cI cJ cC) 17 aM τ) H) (hS : va_S (fun q : Nat => s.heap.size ≤ q) s.heap H locs) (hl : lv_has ls 4 [(0, .ref b), (1, .ref (aC 0)), (2, .ref (aM 0)), (3, .int x3)]) (hend : ∀ (σ τ : ZS) (H : Heap) (locs : List Loc), R σ τ → va_P D vwCl (zW (zcC aC cI cJ cC) 41 aC σ) H → va_P D vwCl (zW (zcM aM cI cJ cC) 17 aM τ) H → va_S (fun q : Nat => s.heap.size ≤ q) s.heap H locs → ∀ ls : Array Slot, lv_has ls 4 [(0, .ref b), (1, .ref (aC 0)), (2, .ref (aM 0)), (3, .int x3)] → W p l e room_1 s m #[Value.ref b] below meth c H locs 58 1286 (lw_Z below #[Value.ref b] s) (F0 m 1441 ls [])) : W p l e room_1 s m #[Value.ref b] below meth c H locs 58 1286 (lw_Z below #[Value.ref b] s) (F0 m 1392 ls []) := by
  obtain ⟨hx, hb, hr, hml, hown, hts0, hX, hbl, hlocks, hgv⟩ := C0
  obtain ⟨hK, hzC, hzM, hdis, hAC, hAM, hE⟩ := Z
  have hK2 : va_K D vwCl [(cI, .int), (cJ, .long)] s := hK.sub [0, 1] rfl
  have hts : ∀ w ∈ wsL_law, w.before #[Value.ref b] s = true := fun w h => hts0 w (wsL_law_in w h)
  have hown : s.vm.findClass RL = some m.cls := hown
  have hA : ∀ q : Nat, s.heap.size ≤ q → (fun q : Nat => s.heap.size ≤ q) q := fun _ h => h
  have hbA : ¬ (fun q : Nat => s.heap.size ≤ q) b := Nat.not_le.mpr hbl
  obtain ⟨r9, σ1, τ1, e1, e2, hR1⟩ := hstep σ τ  hR
  refine lv_aload_n hx hb dL_law_1392 rfl (lv_at hl 1 rfl) ?_
  refine zw_calli hAC hA hS (zw_run (As := []) (rest := []) hx hb hml hown hts hK2 (zEC_good adK adV) hzC hAC hA hE hPC hS 0 (kX6_image (l := l) (D := D) (a := aC) (cI := cI) (cJ := cJ) (cC := cC) (adK := adK) (adV := adV) e1 _) (cwV 0 hts gL_law_X6_image rfl rfl rfl (by decide +kernel) ⟨Nat.le_of_ble_eq_true rfl, Nat.le_of_ble_eq_true rfl⟩) (by decide) (zcC_0 _ _ _ _ _ _) rfl rfl rfl hl.1 rfl (Nat.le_of_ble_eq_true rfl) ⟨Nat.le_of_ble_eq_true rfl, Nat.le_of_ble_eq_true rfl⟩ dL_law_1393) (fun H locs hPC hS hk9 => ?_)
  have hPM := zw_kept hPM hdis hk9
  refine lv_aload_n hx hb dL_law_1396 rfl (lv_at hl 2 rfl) ?_
  refine zw_calli hAM hA hS (zw_run (As := []) (rest := [.int r9]) hx hb hml hown hts hK zEM_good hzM hAM hA trivial hPM hS 0 (kX7_image (l := l) (D := D) (a := aM) (cI := cI) (cJ := cJ) (cC := cC) e2 _) (cwV 0 hts gL_law_X7_image rfl rfl rfl (by decide +kernel) ⟨Nat.le_of_ble_eq_true rfl, Nat.le_of_ble_eq_true rfl⟩) (by decide) (zcM_0 _ _ _ _ _ _) rfl rfl rfl hl.1 rfl (Nat.le_of_ble_eq_true rfl) ⟨Nat.le_of_ble_eq_true rfl, Nat.le_of_ble_eq_true rfl⟩ dL_law_1397) (fun H locs hPM hS hk9 => ?_)
  have hPC := zw_kept hPC (fun i j hi hj => (hdis j i hj hi).symm) hk9
  exact lv_icmp_eq (tgt := 1441) hx hb dL_law_1400 (by decide) (fun _ => hend _ _ _ _ hR1 hPC hPM hS ls hl) (fun c9 => absurd rfl c9)
set_option maxHeartbeats 4000000 in
set_option maxRecDepth 100000 in
theorem law_case33 {p : Program} {l : Launch} {e : Env} {s : State} {m : MethodId} {below : List Frame} {meth : Method} {c : Code} {b L : Nat} {xs : Nat → Int32} {D : va_G} {aC aM adK adV : Nat → Nat} {cI cJ cC : ClassId} {R : ZS → ZS → Prop} (hstep : zStep33 R) (C0 : lw_At p s m meth c b L xs) (Z : zLaw s D aC aM adK adV cI cJ cC) {x3 : Int32} (hin : ∀ k : Nat, k < 8 → vp_in (x3 + nI k) L) {σ τ : ZS} (hR : R σ τ) (H : Heap) (locs : List Loc) (ls : Array Slot) (hPC : va_P D vwCl (zW (zcC aC cI cJ cC) 41 aC σ) H) (hPM : va_P D vwCl (zW (zcM aM cI cJ cC) 17 aM τ) H) (hS : va_S (fun q : Nat => s.heap.size ≤ q) s.heap H locs) (hl : lv_has ls 4 [(0, .ref b), (1, .ref (aC 0)), (2, .ref (aM 0)), (3, .int x3)]) (hend : ∀ (σ τ : ZS) (H : Heap) (locs : List Loc), R σ τ → va_P D vwCl (zW (zcC aC cI cJ cC) 41 aC σ) H → va_P D vwCl (zW (zcM aM cI cJ cC) 17 aM τ) H → va_S (fun q : Nat => s.heap.size ≤ q) s.heap H locs → ∀ ls : Array Slot, lv_has ls 4 [(0, .ref b), (1, .ref (aC 0)), (2, .ref (aM 0)), (3, .int x3)] → W p l e room_1 s m #[Value.ref b] below meth c H locs 58 1286 (lw_Z below #[Value.ref b] s) (F0 m 1441 ls [])) : W p l e room_1 s m #[Value.ref b] below meth c H locs 58 1286 (lw_Z below #[Value.ref b] s) (F0 m 1405 ls []) := by
  obtain ⟨hx, hb, hr, hml, hown, hts0, hX, hbl, hlocks, hgv⟩ := C0
  obtain ⟨hK, hzC, hzM, hdis, hAC, hAM, hE⟩ := Z
  have hK2 : va_K D vwCl [(cI, .int), (cJ, .long)] s := hK.sub [0, 1] rfl
  have hts : ∀ w ∈ wsL_law, w.before #[Value.ref b] s = true := fun w h => hts0 w (wsL_law_in w h)
  have hown : s.vm.findClass RL = some m.cls := hown
  have hA : ∀ q : Nat, s.heap.size ≤ q → (fun q : Nat => s.heap.size ≤ q) q := fun _ h => h
  have hbA : ¬ (fun q : Nat => s.heap.size ≤ q) b := Nat.not_le.mpr hbl
  obtain ⟨r9, σ1, τ1, e1, e2, hR1⟩ := hstep σ τ  hR
  refine lv_aload_n hx hb dL_law_1405 rfl (lv_at hl 1 rfl) ?_
  refine zw_calli hAC hA hS (zw_run (As := []) (rest := []) hx hb hml hown hts hK2 (zEC_good adK adV) hzC hAC hA hE hPC hS 0 (kX6_undo (l := l) (D := D) (a := aC) (cI := cI) (cJ := cJ) (cC := cC) (adK := adK) (adV := adV) e1 _) (cwV 0 hts gL_law_X6_undo rfl rfl rfl (by decide +kernel) ⟨Nat.le_of_ble_eq_true rfl, Nat.le_of_ble_eq_true rfl⟩) (by decide) (zcC_0 _ _ _ _ _ _) rfl rfl rfl hl.1 rfl (Nat.le_of_ble_eq_true rfl) ⟨Nat.le_of_ble_eq_true rfl, Nat.le_of_ble_eq_true rfl⟩ dL_law_1406) (fun H locs hPC hS hk9 => ?_)
  have hPM := zw_kept hPM hdis hk9
  refine lv_aload_n hx hb dL_law_1409 rfl (lv_at hl 2 rfl) ?_
  refine zw_calli hAM hA hS (zw_run (As := []) (rest := [.int r9]) hx hb hml hown hts hK zEM_good hzM hAM hA trivial hPM hS 0 (kX7_undo (l := l) (D := D) (a := aM) (cI := cI) (cJ := cJ) (cC := cC) e2 _) (cwV 0 hts gL_law_X7_undo rfl rfl rfl (by decide +kernel) ⟨Nat.le_of_ble_eq_true rfl, Nat.le_of_ble_eq_true rfl⟩) (by decide) (zcM_0 _ _ _ _ _ _) rfl rfl rfl hl.1 rfl (Nat.le_of_ble_eq_true rfl) ⟨Nat.le_of_ble_eq_true rfl, Nat.le_of_ble_eq_true rfl⟩ dL_law_1410) (fun H locs hPM hS hk9 => ?_)
  have hPC := zw_kept hPC (fun i j hi hj => (hdis j i hj hi).symm) hk9
  exact lv_icmp_eq (tgt := 1441) hx hb dL_law_1413 (by decide) (fun _ => hend _ _ _ _ hR1 hPC hPM hS ls hl) (fun c9 => absurd rfl c9)
set_option maxHeartbeats 4000000 in
set_option maxRecDepth 100000 in
theorem law_case34 {p : Program} {l : Launch} {e : Env} {s : State} {m : MethodId} {below : List Frame} {meth : Method} {c : Code} {b L : Nat} {xs : Nat → Int32} {D : va_G} {aC aM adK adV : Nat → Nat} {cI cJ cC : ClassId} {R : ZS → ZS → Prop} (hstep : zStep34 R) (C0 : lw_At p s m meth c b L xs) (Z : zLaw s D aC aM adK adV cI cJ cC) {x3 : Int32} (hin : ∀ k : Nat, k < 8 → vp_in (x3 + nI k) L) {σ τ : ZS} (hR : R σ τ) (H : Heap) (locs : List Loc) (ls : Array Slot) (hPC : va_P D vwCl (zW (zcC aC cI cJ cC) 41 aC σ) H) (hPM : va_P D vwCl (zW (zcM aM cI cJ cC) 17 aM τ) H) (hS : va_S (fun q : Nat => s.heap.size ≤ q) s.heap H locs) (hl : lv_has ls 4 [(0, .ref b), (1, .ref (aC 0)), (2, .ref (aM 0)), (3, .int x3)]) (hend : ∀ (σ τ : ZS) (H : Heap) (locs : List Loc), R σ τ → va_P D vwCl (zW (zcC aC cI cJ cC) 41 aC σ) H → va_P D vwCl (zW (zcM aM cI cJ cC) 17 aM τ) H → va_S (fun q : Nat => s.heap.size ≤ q) s.heap H locs → ∀ ls : Array Slot, lv_has ls 4 [(0, .ref b), (1, .ref (aC 0)), (2, .ref (aM 0)), (3, .int x3)] → W p l e room_1 s m #[Value.ref b] below meth c H locs 58 1286 (lw_Z below #[Value.ref b] s) (F0 m 1441 ls [])) : W p l e room_1 s m #[Value.ref b] below meth c H locs 58 1286 (lw_Z below #[Value.ref b] s) (F0 m 1418 ls []) := by
  obtain ⟨hx, hb, hr, hml, hown, hts0, hX, hbl, hlocks, hgv⟩ := C0
  obtain ⟨hK, hzC, hzM, hdis, hAC, hAM, hE⟩ := Z
  have hK2 : va_K D vwCl [(cI, .int), (cJ, .long)] s := hK.sub [0, 1] rfl
  have hts : ∀ w ∈ wsL_law, w.before #[Value.ref b] s = true := fun w h => hts0 w (wsL_law_in w h)
  have hown : s.vm.findClass RL = some m.cls := hown
  have hA : ∀ q : Nat, s.heap.size ≤ q → (fun q : Nat => s.heap.size ≤ q) q := fun _ h => h
  have hbA : ¬ (fun q : Nat => s.heap.size ≤ q) b := Nat.not_le.mpr hbl
  obtain ⟨r9, σ1, τ1, e1, e2, hR1⟩ := hstep σ τ (xs (x3 + (1 : Int32)).toNatClampNeg) hR
  refine lv_aload_n hx hb dL_law_1418 rfl (lv_at hl 1 rfl) ?_
  refine lv_aload_n hx hb dL_law_1419 rfl (lv_at hl 0 rfl) ?_
  refine lv_iload_n hx hb dL_law_1420 rfl (lv_at hl 3 rfl) ?_
  refine lv_iconst (v := 1) hx hb dL_law_1421 (by decide) ?_
  refine lv_iadd hx hb dL_law_1422 ?_
  refine va_sld hx hb hX hbl hbA hS (hin 1 (by decide)) dL_law_1423 ?_
  refine zw_calli hAC hA hS (zw_run (As := [.int (xs (x3 + (1 : Int32)).toNatClampNeg)]) (rest := []) hx hb hml hown hts hK2 (zEC_good adK adV) hzC hAC hA hE hPC hS 0 (kX6_count (l := l) (D := D) (a := aC) (cI := cI) (cJ := cJ) (cC := cC) (adK := adK) (adV := adV) e1 _) (cwV 1 hts gL_law_X6_count rfl rfl rfl (by decide +kernel) ⟨Nat.le_of_ble_eq_true rfl, Nat.le_of_ble_eq_true rfl⟩) (by decide) (zcC_0 _ _ _ _ _ _) rfl rfl rfl hl.1 rfl (Nat.le_of_ble_eq_true rfl) ⟨Nat.le_of_ble_eq_true rfl, Nat.le_of_ble_eq_true rfl⟩ dL_law_1424) (fun H locs hPC hS hk9 => ?_)
  have hPM := zw_kept hPM hdis hk9
  refine lv_aload_n hx hb dL_law_1427 rfl (lv_at hl 2 rfl) ?_
  refine lv_aload_n hx hb dL_law_1428 rfl (lv_at hl 0 rfl) ?_
  refine lv_iload_n hx hb dL_law_1429 rfl (lv_at hl 3 rfl) ?_
  refine lv_iconst (v := 1) hx hb dL_law_1430 (by decide) ?_
  refine lv_iadd hx hb dL_law_1431 ?_
  refine va_sld hx hb hX hbl hbA hS (hin 1 (by decide)) dL_law_1432 ?_
  refine zw_calli hAM hA hS (zw_run (As := [.int (xs (x3 + (1 : Int32)).toNatClampNeg)]) (rest := [.int r9]) hx hb hml hown hts hK zEM_good hzM hAM hA trivial hPM hS 0 (kX7_count (l := l) (D := D) (a := aM) (cI := cI) (cJ := cJ) (cC := cC) e2 _) (cwV 1 hts gL_law_X7_count rfl rfl rfl (by decide +kernel) ⟨Nat.le_of_ble_eq_true rfl, Nat.le_of_ble_eq_true rfl⟩) (by decide) (zcM_0 _ _ _ _ _ _) rfl rfl rfl hl.1 rfl (Nat.le_of_ble_eq_true rfl) ⟨Nat.le_of_ble_eq_true rfl, Nat.le_of_ble_eq_true rfl⟩ dL_law_1433) (fun H locs hPM hS hk9 => ?_)
  have hPC := zw_kept hPC (fun i j hi hj => (hdis j i hj hi).symm) hk9
  exact lv_icmp_eq (tgt := 1441) hx hb dL_law_1436 (by decide) (fun _ => hend _ _ _ _ hR1 hPC hPM hS ls hl) (fun c9 => absurd rfl c9)
