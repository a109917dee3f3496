/-! THE CLAIM OUT OF ONE WALK OF THE LAW'S BODY. Your part is whole_start (and what it stands on); all else here is the same for every law, but numbers. -/
def R_law : String := "ColourStacksLaw"
def lw_P (b : Addr) (xs : List Int32) (args : Array Value) (s : State) : Prop := args = #[.ref b] ∧ s.IntsAt b xs ∧ xs.length ≤ 4096 ∧ (Jvm.Cond.and given_1 narrow_1).before args s = true
def lw_Q (_ : Array Value) (s : State) (o : Outcome) (t : State) : Prop := o = .returned (some (.int 1)) ∧ Framed s o t [] 58 1286
def lw_Z (below : List Frame) (a : Array Value) (s : State) : State → Prop := fun t => ∃ o, t.status = .running ∧ Ended t below o ∧ lw_Q a s o t
/-- the law's own end, with 1 on the stack, nothing written that was there before, its room as the claim has it -/
theorem lw_ret {p : Program} {l : Launch} {e : Env} {s : State} {m : MethodId} {below : List Frame} {meth : Method} {c : Code} {b : Nat} (hx : p.tables.exec = Jvm.exec) (hb : c.code = code) (hr : meth.sig.returnType = ret) (hlocks : meth.locks = false) {pc : Nat} {H : Heap} {ls : Array Slot} (hdg : decode code pc = .ok (.ireturn, 1)) : W p l e room_1 s m #[Value.ref b] below meth c H [] 58 1286 (lw_Z below #[Value.ref b] s) (F0 m pc ls [.int 1]) := by
  intro T hT X
  obtain ⟨fs, hret, hrun, hended, hW, hframe⟩ := X.leave (v := some (.int 1)) (hlocks := hlocks) (fun h => by rw [hr] at h; cases h)
  have hmeth' : T.vm.method? m = some meth := X.method'
  refine ⟨T.setFrames fs, ?_, .returned (some (.int 1)), hrun, hended, rfl, ⟨_, rfl⟩, hW, hframe⟩
  jvm_step X.here [X.here.top, hx, hb, hdg, hmeth', hr, ret, narrow_b1]
  (try refine ⟨rfl, ?_⟩); (try refine ⟨rfl, ?_⟩)
  first | (intro acts; rw [hret _ acts rfl rfl rfl]) | rw [hret _ _ rfl rfl rfl]
  exact Steps.refl _
/-- what holds at the law's entry: the machine, the code, the tables' words (any of lw_tbl by 'hts w (by decide +kernel)'), the script of L ints xs at the cell b, what the Statement gives of the start (any of its parts by flat_of_before) -/
def lw_At (p : Program) (s : State) (m : MethodId) (meth : Method) (c : Code) (b L : Nat) (xs : Nat → Int32) : Prop :=
  p.tables.exec = Jvm.exec ∧ c.code = code ∧ meth.sig.returnType = ret ∧ c.maxLocals = 4 ∧ s.vm.findClass R_law = some m.cls ∧ (∀ w ∈ lw_tbl, w.before #[Value.ref b] s = true) ∧ va_X b L xs s s.heap ∧ b < s.heap.size ∧ meth.locks = false ∧ (Jvm.Cond.and given_1 narrow_1).before #[Value.ref b] s = true
/-- what the law's loop stands on, besides its own entry -/
def zLaw (s : State) (D : va_G) (aC aM adK adV : Nat → Nat) (cI cJ cC : ClassId) : Prop := va_K D vwCl [(cI, .int), (cJ, .long), (cC, .char)] s ∧ zA 41 aC ∧ zA 17 aM ∧ (∀ i j, i < 41 → j < 17 → aC i ≠ aM j) ∧ (∀ i, i < 41 → s.heap.size ≤ aC i) ∧ (∀ i, i < 17 → s.heap.size ≤ aM i) ∧ zEC adK adV (fun q : Nat => s.heap.size ≤ q) s s.heap
theorem lg_self (x : Int64) : lg_cmp x x = 0 := by
  unfold lg_cmp
  rw [if_neg (by exact Int64.lt_irrefl), if_pos rfl]

set_option maxHeartbeats 4000000 in
set_option maxRecDepth 100000 in
theorem law_case0 {p : Program} {l : Launch} {e : Env} {s : State} {m : MethodId} {below : List Frame} {meth : Method} {c : Code} {b L : Nat} {xs : Nat → Int32} {D : va_G} {aC aM adK adV : Nat → Nat} {cI cJ cC : ClassId} {R : ZS → ZS → Prop} (hstep : zStep0 R) (C0 : lw_At p s m meth c b L xs) (Z : zLaw s D aC aM adK adV cI cJ cC) {x3 : Int32} (hin : ∀ k : Nat, k < 8 → vp_in (x3 + nI k) L) {σ τ : ZS} (hR : R σ τ) (H : Heap) (locs : List Loc) (ls : Array Slot) (hPC : va_P D vwCl (zW (zcC aC cI cJ cC) 41 aC σ) H) (hPM : va_P D vwCl (zW (zcM aM cI cJ cC) 17 aM τ) H) (hS : va_S (fun q : Nat => s.heap.size ≤ q) s.heap H locs) (hl : lv_has ls 4 [(0, .ref b), (1, .ref (aC 0)), (2, .ref (aM 0)), (3, .int x3)]) (hend : ∀ (σ τ : ZS) (H : Heap) (locs : List Loc), R σ τ → va_P D vwCl (zW (zcC aC cI cJ cC) 41 aC σ) H → va_P D vwCl (zW (zcM aM cI cJ cC) 17 aM τ) H → va_S (fun q : Nat => s.heap.size ≤ q) s.heap H locs → ∀ ls : Array Slot, lv_has ls 4 [(0, .ref b), (1, .ref (aC 0)), (2, .ref (aM 0)), (3, .int x3)] → W p l e room_1 s m #[Value.ref b] below meth c H locs 58 1286 (lw_Z below #[Value.ref b] s) (F0 m 1441 ls [])) : W p l e room_1 s m #[Value.ref b] below meth c H locs 58 1286 (lw_Z below #[Value.ref b] s) (F0 m 188 ls []) := by
  obtain ⟨hx, hb, hr, hml, hown, hts0, hX, hbl, hlocks, hgv⟩ := C0
  obtain ⟨hK, hzC, hzM, hdis, hAC, hAM, hE⟩ := Z
  have hK2 : va_K D vwCl [(cI, .int), (cJ, .long)] s := hK.sub [0, 1] rfl
  have hts : ∀ w ∈ wsL_law, w.before #[Value.ref b] s = true := fun w h => hts0 w (wsL_law_in w h)
  have hown : s.vm.findClass RL = some m.cls := hown
  have hA : ∀ q : Nat, s.heap.size ≤ q → (fun q : Nat => s.heap.size ≤ q) q := fun _ h => h
  have hbA : ¬ (fun q : Nat => s.heap.size ≤ q) b := Nat.not_le.mpr hbl
  obtain ⟨r9, σ1, τ1, e1, e2, hR1⟩ := hstep σ τ (xs (x3 + (1 : Int32)).toNatClampNeg) hR
  refine lv_aload_n hx hb dL_law_188 rfl (lv_at hl 1 rfl) ?_
  refine lv_aload_n hx hb dL_law_189 rfl (lv_at hl 0 rfl) ?_
  refine lv_iload_n hx hb dL_law_190 rfl (lv_at hl 3 rfl) ?_
  refine lv_iconst (v := 1) hx hb dL_law_191 (by decide) ?_
  refine lv_iadd hx hb dL_law_192 ?_
  refine va_sld hx hb hX hbl hbA hS (hin 1 (by decide)) dL_law_193 ?_
  refine zw_calli hAC hA hS (zw_run (As := [.int (xs (x3 + (1 : Int32)).toNatClampNeg)]) (rest := []) hx hb hml hown hts hK2 (zEC_good adK adV) hzC hAC hA hE hPC hS 0 (kX6_feed (l := l) (D := D) (a := aC) (cI := cI) (cJ := cJ) (cC := cC) (adK := adK) (adV := adV) e1 _) (cwV 1 hts gL_law_X6_feed rfl rfl rfl (by decide +kernel) ⟨Nat.le_of_ble_eq_true rfl, Nat.le_of_ble_eq_true rfl⟩) (by decide) (zcC_0 _ _ _ _ _ _) rfl rfl rfl hl.1 rfl (Nat.le_of_ble_eq_true rfl) ⟨Nat.le_of_ble_eq_true rfl, Nat.le_of_ble_eq_true rfl⟩ dL_law_194) (fun H locs hPC hS hk9 => ?_)
  have hPM := zw_kept hPM hdis hk9
  refine lv_aload_n hx hb dL_law_197 rfl (lv_at hl 2 rfl) ?_
  refine lv_aload_n hx hb dL_law_198 rfl (lv_at hl 0 rfl) ?_
  refine lv_iload_n hx hb dL_law_199 rfl (lv_at hl 3 rfl) ?_
  refine lv_iconst (v := 1) hx hb dL_law_200 (by decide) ?_
  refine lv_iadd hx hb dL_law_201 ?_
  refine va_sld hx hb hX hbl hbA hS (hin 1 (by decide)) dL_law_202 ?_
  refine zw_calli hAM hA hS (zw_run (As := [.int (xs (x3 + (1 : Int32)).toNatClampNeg)]) (rest := [.int r9]) hx hb hml hown hts hK zEM_good hzM hAM hA trivial hPM hS 0 (kX7_feed (l := l) (D := D) (a := aM) (cI := cI) (cJ := cJ) (cC := cC) e2 _) (cwV 1 hts gL_law_X7_feed rfl rfl rfl (by decide +kernel) ⟨Nat.le_of_ble_eq_true rfl, Nat.le_of_ble_eq_true rfl⟩) (by decide) (zcM_0 _ _ _ _ _ _) rfl rfl rfl hl.1 rfl (Nat.le_of_ble_eq_true rfl) ⟨Nat.le_of_ble_eq_true rfl, Nat.le_of_ble_eq_true rfl⟩ dL_law_203) (fun H locs hPM hS hk9 => ?_)
  have hPC := zw_kept hPC (fun i j hi hj => (hdis j i hj hi).symm) hk9
  exact lv_icmp_eq (tgt := 1441) hx hb dL_law_206 (by decide) (fun _ => hend _ _ _ _ hR1 hPC hPM hS ls hl) (fun c9 => absurd rfl c9)
set_option maxHeartbeats 4000000 in
set_option maxRecDepth 100000 in
theorem law_case1 {p : Program} {l : Launch} {e : Env} {s : State} {m : MethodId} {below : List Frame} {meth : Method} {c : Code} {b L : Nat} {xs : Nat → Int32} {D : va_G} {aC aM adK adV : Nat → Nat} {cI cJ cC : ClassId} {R : ZS → ZS → Prop} (hstep : zStep1 R) (C0 : lw_At p s m meth c b L xs) (Z : zLaw s D aC aM adK adV cI cJ cC) {x3 : Int32} (hin : ∀ k : Nat, k < 8 → vp_in (x3 + nI k) L) {σ τ : ZS} (hR : R σ τ) (H : Heap) (locs : List Loc) (ls : Array Slot) (hPC : va_P D vwCl (zW (zcC aC cI cJ cC) 41 aC σ) H) (hPM : va_P D vwCl (zW (zcM aM cI cJ cC) 17 aM τ) H) (hS : va_S (fun q : Nat => s.heap.size ≤ q) s.heap H locs) (hl : lv_has ls 4 [(0, .ref b), (1, .ref (aC 0)), (2, .ref (aM 0)), (3, .int x3)]) (hend : ∀ (σ τ : ZS) (H : Heap) (locs : List Loc), R σ τ → va_P D vwCl (zW (zcC aC cI cJ cC) 41 aC σ) H → va_P D vwCl (zW (zcM aM cI cJ cC) 17 aM τ) H → va_S (fun q : Nat => s.heap.size ≤ q) s.heap H locs → ∀ ls : Array Slot, lv_has ls 4 [(0, .ref b), (1, .ref (aC 0)), (2, .ref (aM 0)), (3, .int x3)] → W p l e room_1 s m #[Value.ref b] below meth c H locs 58 1286 (lw_Z below #[Value.ref b] s) (F0 m 1441 ls [])) : W p l e room_1 s m #[Value.ref b] below meth c H locs 58 1286 (lw_Z below #[Value.ref b] s) (F0 m 211 ls []) := by
  obtain ⟨hx, hb, hr, hml, hown, hts0, hX, hbl, hlocks, hgv⟩ := C0
  obtain ⟨hK, hzC, hzM, hdis, hAC, hAM, hE⟩ := Z
  have hK2 : va_K D vwCl [(cI, .int), (cJ, .long)] s := hK.sub [0, 1] rfl
  have hts : ∀ w ∈ wsL_law, w.before #[Value.ref b] s = true := fun w h => hts0 w (wsL_law_in w h)
  have hown : s.vm.findClass RL = some m.cls := hown
  have hA : ∀ q : Nat, s.heap.size ≤ q → (fun q : Nat => s.heap.size ≤ q) q := fun _ h => h
  have hbA : ¬ (fun q : Nat => s.heap.size ≤ q) b := Nat.not_le.mpr hbl
  obtain ⟨r9, σ1, τ1, e1, e2, hR1⟩ := hstep σ τ  hR
  refine lv_aload_n hx hb dL_law_211 rfl (lv_at hl 1 rfl) ?_
  refine zw_calli hAC hA hS (zw_run (As := []) (rest := []) hx hb hml hown hts hK2 (zEC_good adK adV) hzC hAC hA hE hPC hS 0 (kX6_sheets (l := l) (D := D) (a := aC) (cI := cI) (cJ := cJ) (cC := cC) (adK := adK) (adV := adV) e1 _) (cwV 0 hts gL_law_X6_sheets rfl rfl rfl (by decide +kernel) ⟨Nat.le_of_ble_eq_true rfl, Nat.le_of_ble_eq_true rfl⟩) (by decide) (zcC_0 _ _ _ _ _ _) rfl rfl rfl hl.1 rfl (Nat.le_of_ble_eq_true rfl) ⟨Nat.le_of_ble_eq_true rfl, Nat.le_of_ble_eq_true rfl⟩ dL_law_212) (fun H locs hPC hS hk9 => ?_)
  have hPM := zw_kept hPM hdis hk9
  refine lv_aload_n hx hb dL_law_215 rfl (lv_at hl 2 rfl) ?_
  refine zw_calli hAM hA hS (zw_run (As := []) (rest := [.int r9]) hx hb hml hown hts hK zEM_good hzM hAM hA trivial hPM hS 0 (kX7_sheets (l := l) (D := D) (a := aM) (cI := cI) (cJ := cJ) (cC := cC) e2 _) (cwV 0 hts gL_law_X7_sheets rfl rfl rfl (by decide +kernel) ⟨Nat.le_of_ble_eq_true rfl, Nat.le_of_ble_eq_true rfl⟩) (by decide) (zcM_0 _ _ _ _ _ _) rfl rfl rfl hl.1 rfl (Nat.le_of_ble_eq_true rfl) ⟨Nat.le_of_ble_eq_true rfl, Nat.le_of_ble_eq_true rfl⟩ dL_law_216) (fun H locs hPM hS hk9 => ?_)
  have hPC := zw_kept hPC (fun i j hi hj => (hdis j i hj hi).symm) hk9
  exact lv_icmp_eq (tgt := 1441) hx hb dL_law_219 (by decide) (fun _ => hend _ _ _ _ hR1 hPC hPM hS ls hl) (fun c9 => absurd rfl c9)
set_option maxHeartbeats 4000000 in
set_option maxRecDepth 100000 in
theorem law_case2 {p : Program} {l : Launch} {e : Env} {s : State} {m : MethodId} {below : List Frame} {meth : Method} {c : Code} {b L : Nat} {xs : Nat → Int32} {D : va_G} {aC aM adK adV : Nat → Nat} {cI cJ cC : ClassId} {R : ZS → ZS → Prop} (hstep : zStep2 R) (C0 : lw_At p s m meth c b L xs) (Z : zLaw s D aC aM adK adV cI cJ cC) {x3 : Int32} (hin : ∀ k : Nat, k < 8 → vp_in (x3 + nI k) L) {σ τ : ZS} (hR : R σ τ) (H : Heap) (locs : List Loc) (ls : Array Slot) (hPC : va_P D vwCl (zW (zcC aC cI cJ cC) 41 aC σ) H) (hPM : va_P D vwCl (zW (zcM aM cI cJ cC) 17 aM τ) H) (hS : va_S (fun q : Nat => s.heap.size ≤ q) s.heap H locs) (hl : lv_has ls 4 [(0, .ref b), (1, .ref (aC 0)), (2, .ref (aM 0)), (3, .int x3)]) (hend : ∀ (σ τ : ZS) (H : Heap) (locs : List Loc), R σ τ → va_P D vwCl (zW (zcC aC cI cJ cC) 41 aC σ) H → va_P D vwCl (zW (zcM aM cI cJ cC) 17 aM τ) H → va_S (fun q : Nat => s.heap.size ≤ q) s.heap H locs → ∀ ls : Array Slot, lv_has ls 4 [(0, .ref b), (1, .ref (aC 0)), (2, .ref (aM 0)), (3, .int x3)] → W p l e room_1 s m #[Value.ref b] below meth c H locs 58 1286 (lw_Z below #[Value.ref b] s) (F0 m 1441 ls [])) : W p l e room_1 s m #[Value.ref b] below meth c H locs 58 1286 (lw_Z below #[Value.ref b] s) (F0 m 224 ls []) := by
  obtain ⟨hx, hb, hr, hml, hown, hts0, hX, hbl, hlocks, hgv⟩ := C0
  obtain ⟨hK, hzC, hzM, hdis, hAC, hAM, hE⟩ := Z
  have hK2 : va_K D vwCl [(cI, .int), (cJ, .long)] s := hK.sub [0, 1] rfl
  have hts : ∀ w ∈ wsL_law, w.before #[Value.ref b] s = true := fun w h => hts0 w (wsL_law_in w h)
  have hown : s.vm.findClass RL = some m.cls := hown
  have hA : ∀ q : Nat, s.heap.size ≤ q → (fun q : Nat => s.heap.size ≤ q) q := fun _ h => h
  have hbA : ¬ (fun q : Nat => s.heap.size ≤ q) b := Nat.not_le.mpr hbl
  obtain ⟨r9, σ1, τ1, e1, e2, hR1⟩ := hstep σ τ (xs (x3 + (1 : Int32)).toNatClampNeg) (xs (x3 + (2 : Int32)).toNatClampNeg) (xs (x3 + (3 : Int32)).toNatClampNeg) hR
  refine lv_aload_n hx hb dL_law_224 rfl (lv_at hl 1 rfl) ?_
  refine lv_aload_n hx hb dL_law_225 rfl (lv_at hl 0 rfl) ?_
  refine lv_iload_n hx hb dL_law_226 rfl (lv_at hl 3 rfl) ?_
  refine lv_iconst (v := 1) hx hb dL_law_227 (by decide) ?_
  refine lv_iadd hx hb dL_law_228 ?_
  refine va_sld hx hb hX hbl hbA hS (hin 1 (by decide)) dL_law_229 ?_
  refine lv_aload_n hx hb dL_law_230 rfl (lv_at hl 0 rfl) ?_
  refine lv_iload_n hx hb dL_law_231 rfl (lv_at hl 3 rfl) ?_
  refine lv_iconst (v := 2) hx hb dL_law_232 (by decide) ?_
  refine lv_iadd hx hb dL_law_233 ?_
  refine va_sld hx hb hX hbl hbA hS (hin 2 (by decide)) dL_law_234 ?_
  refine lv_aload_n hx hb dL_law_235 rfl (lv_at hl 0 rfl) ?_
  refine lv_iload_n hx hb dL_law_236 rfl (lv_at hl 3 rfl) ?_
  refine lv_iconst (v := 3) hx hb dL_law_237 (by decide) ?_
  refine lv_iadd hx hb dL_law_238 ?_
  refine va_sld hx hb hX hbl hbA hS (hin 3 (by decide)) dL_law_239 ?_
  refine zw_calli hAC hA hS (zw_run (As := [.int (xs (x3 + (1 : Int32)).toNatClampNeg), .int (xs (x3 + (2 : Int32)).toNatClampNeg), .int (xs (x3 + (3 : Int32)).toNatClampNeg)]) (rest := []) hx hb hml hown hts hK2 (zEC_good adK adV) hzC hAC hA hE hPC hS 0 (kX6_number (l := l) (D := D) (a := aC) (cI := cI) (cJ := cJ) (cC := cC) (adK := adK) (adV := adV) e1 _) (cwV 3 hts gL_law_X6_number rfl rfl rfl (by decide +kernel) ⟨Nat.le_of_ble_eq_true rfl, Nat.le_of_ble_eq_true rfl⟩) (by decide) (zcC_0 _ _ _ _ _ _) rfl rfl rfl hl.1 rfl (Nat.le_of_ble_eq_true rfl) ⟨Nat.le_of_ble_eq_true rfl, Nat.le_of_ble_eq_true rfl⟩ dL_law_240) (fun H locs hPC hS hk9 => ?_)
  have hPM := zw_kept hPM hdis hk9
  refine lv_aload_n hx hb dL_law_243 rfl (lv_at hl 2 rfl) ?_
  refine lv_aload_n hx hb dL_law_244 rfl (lv_at hl 0 rfl) ?_
  refine lv_iload_n hx hb dL_law_245 rfl (lv_at hl 3 rfl) ?_
  refine lv_iconst (v := 1) hx hb dL_law_246 (by decide) ?_
  refine lv_iadd hx hb dL_law_247 ?_
  refine va_sld hx hb hX hbl hbA hS (hin 1 (by decide)) dL_law_248 ?_
  refine lv_aload_n hx hb dL_law_249 rfl (lv_at hl 0 rfl) ?_
  refine lv_iload_n hx hb dL_law_250 rfl (lv_at hl 3 rfl) ?_
  refine lv_iconst (v := 2) hx hb dL_law_251 (by decide) ?_
  refine lv_iadd hx hb dL_law_252 ?_
  refine va_sld hx hb hX hbl hbA hS (hin 2 (by decide)) dL_law_253 ?_
  refine lv_aload_n hx hb dL_law_254 rfl (lv_at hl 0 rfl) ?_
  refine lv_iload_n hx hb dL_law_255 rfl (lv_at hl 3 rfl) ?_
  refine lv_iconst (v := 3) hx hb dL_law_256 (by decide) ?_
  refine lv_iadd hx hb dL_law_257 ?_
  refine va_sld hx hb hX hbl hbA hS (hin 3 (by decide)) dL_law_258 ?_
  refine zw_calli hAM hA hS (zw_run (As := [.int (xs (x3 + (1 : Int32)).toNatClampNeg), .int (xs (x3 + (2 : Int32)).toNatClampNeg), .int (xs (x3 + (3 : Int32)).toNatClampNeg)]) (rest := [.int r9]) hx hb hml hown hts hK zEM_good hzM hAM hA trivial hPM hS 0 (kX7_number (l := l) (D := D) (a := aM) (cI := cI) (cJ := cJ) (cC := cC) e2 _) (cwV 3 hts gL_law_X7_number rfl rfl rfl (by decide +kernel) ⟨Nat.le_of_ble_eq_true rfl, Nat.le_of_ble_eq_true rfl⟩) (by decide) (zcM_0 _ _ _ _ _ _) rfl rfl rfl hl.1 rfl (Nat.le_of_ble_eq_true rfl) ⟨Nat.le_of_ble_eq_true rfl, Nat.le_of_ble_eq_true rfl⟩ dL_law_259) (fun H locs hPM hS hk9 => ?_)
  have hPC := zw_kept hPC (fun i j hi hj => (hdis j i hj hi).symm) hk9
  exact lv_icmp_eq (tgt := 1441) hx hb dL_law_262 (by decide) (fun _ => hend _ _ _ _ hR1 hPC hPM hS ls hl) (fun c9 => absurd rfl c9)
set_option maxHeartbeats 4000000 in
set_option maxRecDepth 100000 in
theorem law_case3 {p : Program} {l : Launch} {e : Env} {s : State} {m : MethodId} {below : List Frame} {meth : Method} {c : Code} {b L : Nat} {xs : Nat → Int32} {D : va_G} {aC aM adK adV : Nat → Nat} {cI cJ cC : ClassId} {R : ZS → ZS → Prop} (hstep : zStep3 R) (C0 : lw_At p s m meth c b L xs) (Z : zLaw s D aC aM adK adV cI cJ cC) {x3 : Int32} (hin : ∀ k : Nat, k < 8 → vp_in (x3 + nI k) L) {σ τ : ZS} (hR : R σ τ) (H : Heap) (locs : List Loc) (ls : Array Slot) (hPC : va_P D vwCl (zW (zcC aC cI cJ cC) 41 aC σ) H) (hPM : va_P D vwCl (zW (zcM aM cI cJ cC) 17 aM τ) H) (hS : va_S (fun q : Nat => s.heap.size ≤ q) s.heap H locs) (hl : lv_has ls 4 [(0, .ref b), (1, .ref (aC 0)), (2, .ref (aM 0)), (3, .int x3)]) (hend : ∀ (σ τ : ZS) (H : Heap) (locs : List Loc), R σ τ → va_P D vwCl (zW (zcC aC cI cJ cC) 41 aC σ) H → va_P D vwCl (zW (zcM aM cI cJ cC) 17 aM τ) H → va_S (fun q : Nat => s.heap.size ≤ q) s.heap H locs → ∀ ls : Array Slot, lv_has ls 4 [(0, .ref b), (1, .ref (aC 0)), (2, .ref (aM 0)), (3, .int x3)] → W p l e room_1 s m #[Value.ref b] below meth c H locs 58 1286 (lw_Z below #[Value.ref b] s) (F0 m 1441 ls [])) : W p l e room_1 s m #[Value.ref b] below meth c H locs 58 1286 (lw_Z below #[Value.ref b] s) (F0 m 267 ls []) := by
  obtain ⟨hx, hb, hr, hml, hown, hts0, hX, hbl, hlocks, hgv⟩ := C0
  obtain ⟨hK, hzC, hzM, hdis, hAC, hAM, hE⟩ := Z
  have hK2 : va_K D vwCl [(cI, .int), (cJ, .long)] s := hK.sub [0, 1] rfl
  have hts : ∀ w ∈ wsL_law, w.before #[Value.ref b] s = true := fun w h => hts0 w (wsL_law_in w h)
  have hown : s.vm.findClass RL = some m.cls := hown
  have hA : ∀ q : Nat, s.heap.size ≤ q → (fun q : Nat => s.heap.size ≤ q) q := fun _ h => h
  have hbA : ¬ (fun q : Nat => s.heap.size ≤ q) b := Nat.not_le.mpr hbl
  obtain ⟨r9, σ1, τ1, e1, e2, hR1⟩ := hstep σ τ (xs (x3 + (1 : Int32)).toNatClampNeg) (xs (x3 + (2 : Int32)).toNatClampNeg) (xs (x3 + (3 : Int32)).toNatClampNeg) hR
  refine lv_aload_n hx hb dL_law_267 rfl (lv_at hl 1 rfl) ?_
  refine lv_aload_n hx hb dL_law_268 rfl (lv_at hl 0 rfl) ?_
  refine lv_iload_n hx hb dL_law_269 rfl (lv_at hl 3 rfl) ?_
  refine lv_iconst (v := 1) hx hb dL_law_270 (by decide) ?_
  refine lv_iadd hx hb dL_law_271 ?_
  refine va_sld hx hb hX hbl hbA hS (hin 1 (by decide)) dL_law_272 ?_
  refine lv_aload_n hx hb dL_law_273 rfl (lv_at hl 0 rfl) ?_
  refine lv_iload_n hx hb dL_law_274 rfl (lv_at hl 3 rfl) ?_
  refine lv_iconst (v := 2) hx hb dL_law_275 (by decide) ?_
  refine lv_iadd hx hb dL_law_276 ?_
  refine va_sld hx hb hX hbl hbA hS (hin 2 (by decide)) dL_law_277 ?_
  refine lv_aload_n hx hb dL_law_278 rfl (lv_at hl 0 rfl) ?_
  refine lv_iload_n hx hb dL_law_279 rfl (lv_at hl 3 rfl) ?_
  refine lv_iconst (v := 3) hx hb dL_law_280 (by decide) ?_
  refine lv_iadd hx hb dL_law_281 ?_
  refine va_sld hx hb hX hbl hbA hS (hin 3 (by decide)) dL_law_282 ?_
  refine zw_calli hAC hA hS (zw_run (As := [.int (xs (x3 + (1 : Int32)).toNatClampNeg), .int (xs (x3 + (2 : Int32)).toNatClampNeg), .int (xs (x3 + (3 : Int32)).toNatClampNeg)]) (rest := []) hx hb hml hown hts hK2 (zEC_good adK adV) hzC hAC hA hE hPC hS 0 (kX6_becomes (l := l) (D := D) (a := aC) (cI := cI) (cJ := cJ) (cC := cC) (adK := adK) (adV := adV) e1 _) (cwV 3 hts gL_law_X6_becomes rfl rfl rfl (by decide +kernel) ⟨Nat.le_of_ble_eq_true rfl, Nat.le_of_ble_eq_true rfl⟩) (by decide) (zcC_0 _ _ _ _ _ _) rfl rfl rfl hl.1 rfl (Nat.le_of_ble_eq_true rfl) ⟨Nat.le_of_ble_eq_true rfl, Nat.le_of_ble_eq_true rfl⟩ dL_law_283) (fun H locs hPC hS hk9 => ?_)
  have hPM := zw_kept hPM hdis hk9
  refine lv_aload_n hx hb dL_law_286 rfl (lv_at hl 2 rfl) ?_
  refine lv_aload_n hx hb dL_law_287 rfl (lv_at hl 0 rfl) ?_
  refine lv_iload_n hx hb dL_law_288 rfl (lv_at hl 3 rfl) ?_
  refine lv_iconst (v := 1) hx hb dL_law_289 (by decide) ?_
  refine lv_iadd hx hb dL_law_290 ?_
  refine va_sld hx hb hX hbl hbA hS (hin 1 (by decide)) dL_law_291 ?_
  refine lv_aload_n hx hb dL_law_292 rfl (lv_at hl 0 rfl) ?_
  refine lv_iload_n hx hb dL_law_293 rfl (lv_at hl 3 rfl) ?_
  refine lv_iconst (v := 2) hx hb dL_law_294 (by decide) ?_
  refine lv_iadd hx hb dL_law_295 ?_
  refine va_sld hx hb hX hbl hbA hS (hin 2 (by decide)) dL_law_296 ?_
  refine lv_aload_n hx hb dL_law_297 rfl (lv_at hl 0 rfl) ?_
  refine lv_iload_n hx hb dL_law_298 rfl (lv_at hl 3 rfl) ?_
  refine lv_iconst (v := 3) hx hb dL_law_299 (by decide) ?_
  refine lv_iadd hx hb dL_law_300 ?_
  refine va_sld hx hb hX hbl hbA hS (hin 3 (by decide)) dL_law_301 ?_
  refine zw_calli hAM hA hS (zw_run (As := [.int (xs (x3 + (1 : Int32)).toNatClampNeg), .int (xs (x3 + (2 : Int32)).toNatClampNeg), .int (xs (x3 + (3 : Int32)).toNatClampNeg)]) (rest := [.int r9]) hx hb hml hown hts hK zEM_good hzM hAM hA trivial hPM hS 0 (kX7_becomes (l := l) (D := D) (a := aM) (cI := cI) (cJ := cJ) (cC := cC) e2 _) (cwV 3 hts gL_law_X7_becomes rfl rfl rfl (by decide +kernel) ⟨Nat.le_of_ble_eq_true rfl, Nat.le_of_ble_eq_true rfl⟩) (by decide) (zcM_0 _ _ _ _ _ _) rfl rfl rfl hl.1 rfl (Nat.le_of_ble_eq_true rfl) ⟨Nat.le_of_ble_eq_true rfl, Nat.le_of_ble_eq_true rfl⟩ dL_law_302) (fun H locs hPM hS hk9 => ?_)
  have hPC := zw_kept hPC (fun i j hi hj => (hdis j i hj hi).symm) hk9
  exact lv_icmp_eq (tgt := 1441) hx hb dL_law_305 (by decide) (fun _ => hend _ _ _ _ hR1 hPC hPM hS ls hl) (fun c9 => absurd rfl c9)
set_option maxHeartbeats 4000000 in
set_option maxRecDepth 100000 in
theorem law_case4 {p : Program} {l : Launch} {e : Env} {s : State} {m : MethodId} {below : List Frame} {meth : Method} {c : Code} {b L : Nat} {xs : Nat → Int32} {D : va_G} {aC aM adK adV : Nat → Nat} {cI cJ cC : ClassId} {R : ZS → ZS → Prop} (hstep : zStep4 R) (C0 : lw_At p s m meth c b L xs) (Z : zLaw s D aC aM adK adV cI cJ cC) {x3 : Int32} (hin : ∀ k : Nat, k < 8 → vp_in (x3 + nI k) L) {σ τ : ZS} (hR : R σ τ) (H : Heap) (locs : List Loc) (ls : Array Slot) (hPC : va_P D vwCl (zW (zcC aC cI cJ cC) 41 aC σ) H) (hPM : va_P D vwCl (zW (zcM aM cI cJ cC) 17 aM τ) H) (hS : va_S (fun q : Nat => s.heap.size ≤ q) s.heap H locs) (hl : lv_has ls 4 [(0, .ref b), (1, .ref (aC 0)), (2, .ref (aM 0)), (3, .int x3)]) (hend : ∀ (σ τ : ZS) (H : Heap) (locs : List Loc), R σ τ → va_P D vwCl (zW (zcC aC cI cJ cC) 41 aC σ) H → va_P D vwCl (zW (zcM aM cI cJ cC) 17 aM τ) H → va_S (fun q : Nat => s.heap.size ≤ q) s.heap H locs → ∀ ls : Array Slot, lv_has ls 4 [(0, .ref b), (1, .ref (aC 0)), (2, .ref (aM 0)), (3, .int x3)] → W p l e room_1 s m #[Value.ref b] below meth c H locs 58 1286 (lw_Z below #[Value.ref b] s) (F0 m 1441 ls [])) : W p l e room_1 s m #[Value.ref b] below meth c H locs 58 1286 (lw_Z below #[Value.ref b] s) (F0 m 310 ls []) := by
  obtain ⟨hx, hb, hr, hml, hown, hts0, hX, hbl, hlocks, hgv⟩ := C0
  obtain ⟨hK, hzC, hzM, hdis, hAC, hAM, hE⟩ := Z
  have hK2 : va_K D vwCl [(cI, .int), (cJ, .long)] s := hK.sub [0, 1] rfl
  have hts : ∀ w ∈ wsL_law, w.before #[Value.ref b] s = true := fun w h => hts0 w (wsL_law_in w h)
  have hown : s.vm.findClass RL = some m.cls := hown
  have hA : ∀ q : Nat, s.heap.size ≤ q → (fun q : Nat => s.heap.size ≤ q) q := fun _ h => h
  have hbA : ¬ (fun q : Nat => s.heap.size ≤ q) b := Nat.not_le.mpr hbl
  obtain ⟨r9, σ1, τ1, e1, e2, hR1⟩ := hstep σ τ (xs (x3 + (1 : Int32)).toNatClampNeg) (xs (x3 + (2 : Int32)).toNatClampNeg) hR
  refine lv_aload_n hx hb dL_law_310 rfl (lv_at hl 1 rfl) ?_
  refine lv_aload_n hx hb dL_law_311 rfl (lv_at hl 0 rfl) ?_
  refine lv_iload_n hx hb dL_law_312 rfl (lv_at hl 3 rfl) ?_
  refine lv_iconst (v := 1) hx hb dL_law_313 (by decide) ?_
  refine lv_iadd hx hb dL_law_314 ?_
  refine va_sld hx hb hX hbl hbA hS (hin 1 (by decide)) dL_law_315 ?_
  refine lv_aload_n hx hb dL_law_316 rfl (lv_at hl 0 rfl) ?_
  refine lv_iload_n hx hb dL_law_317 rfl (lv_at hl 3 rfl) ?_
  refine lv_iconst (v := 2) hx hb dL_law_318 (by decide) ?_
  refine lv_iadd hx hb dL_law_319 ?_
  refine va_sld hx hb hX hbl hbA hS (hin 2 (by decide)) dL_law_320 ?_
  refine zw_calli hAC hA hS (zw_run (As := [.int (xs (x3 + (1 : Int32)).toNatClampNeg), .int (xs (x3 + (2 : Int32)).toNatClampNeg)]) (rest := []) hx hb hml hown hts hK2 (zEC_good adK adV) hzC hAC hA hE hPC hS 0 (kX6_sheet (l := l) (D := D) (a := aC) (cI := cI) (cJ := cJ) (cC := cC) (adK := adK) (adV := adV) e1 _) (cwV 2 hts gL_law_X6_sheet rfl rfl rfl (by decide +kernel) ⟨Nat.le_of_ble_eq_true rfl, Nat.le_of_ble_eq_true rfl⟩) (by decide) (zcC_0 _ _ _ _ _ _) rfl rfl rfl hl.1 rfl (Nat.le_of_ble_eq_true rfl) ⟨Nat.le_of_ble_eq_true rfl, Nat.le_of_ble_eq_true rfl⟩ dL_law_321) (fun H locs hPC hS hk9 => ?_)
  have hPM := zw_kept hPM hdis hk9
  refine lv_aload_n hx hb dL_law_324 rfl (lv_at hl 2 rfl) ?_
  refine lv_aload_n hx hb dL_law_325 rfl (lv_at hl 0 rfl) ?_
  refine lv_iload_n hx hb dL_law_326 rfl (lv_at hl 3 rfl) ?_
  refine lv_iconst (v := 1) hx hb dL_law_327 (by decide) ?_
  refine lv_iadd hx hb dL_law_328 ?_
  refine va_sld hx hb hX hbl hbA hS (hin 1 (by decide)) dL_law_329 ?_
  refine lv_aload_n hx hb dL_law_330 rfl (lv_at hl 0 rfl) ?_
  refine lv_iload_n hx hb dL_law_331 rfl (lv_at hl 3 rfl) ?_
  refine lv_iconst (v := 2) hx hb dL_law_332 (by decide) ?_
  refine lv_iadd hx hb dL_law_333 ?_
  refine va_sld hx hb hX hbl hbA hS (hin 2 (by decide)) dL_law_334 ?_
  refine zw_calli hAM hA hS (zw_run (As := [.int (xs (x3 + (1 : Int32)).toNatClampNeg), .int (xs (x3 + (2 : Int32)).toNatClampNeg)]) (rest := [.int r9]) hx hb hml hown hts hK zEM_good hzM hAM hA trivial hPM hS 0 (kX7_sheet (l := l) (D := D) (a := aM) (cI := cI) (cJ := cJ) (cC := cC) e2 _) (cwV 2 hts gL_law_X7_sheet rfl rfl rfl (by decide +kernel) ⟨Nat.le_of_ble_eq_true rfl, Nat.le_of_ble_eq_true rfl⟩) (by decide) (zcM_0 _ _ _ _ _ _) rfl rfl rfl hl.1 rfl (Nat.le_of_ble_eq_true rfl) ⟨Nat.le_of_ble_eq_true rfl, Nat.le_of_ble_eq_true rfl⟩ dL_law_335) (fun H locs hPM hS hk9 => ?_)
  have hPC := zw_kept hPC (fun i j hi hj => (hdis j i hj hi).symm) hk9
  exact lv_icmp_eq (tgt := 1441) hx hb dL_law_338 (by decide) (fun _ => hend _ _ _ _ hR1 hPC hPM hS ls hl) (fun c9 => absurd rfl c9)
set_option maxHeartbeats 4000000 in
set_option maxRecDepth 100000 in
theorem law_case5 {p : Program} {l : Launch} {e : Env} {s : State} {m : MethodId} {below : List Frame} {meth : Method} {c : Code} {b L : Nat} {xs : Nat → Int32} {D : va_G} {aC aM adK adV : Nat → Nat} {cI cJ cC : ClassId} {R : ZS → ZS → Prop} (hstep : zStep5 R) (C0 : lw_At p s m meth c b L xs) (Z : zLaw s D aC aM adK adV cI cJ cC) {x3 : Int32} (hin : ∀ k : Nat, k < 8 → vp_in (x3 + nI k) L) {σ τ : ZS} (hR : R σ τ) (H : Heap) (locs : List Loc) (ls : Array Slot) (hPC : va_P D vwCl (zW (zcC aC cI cJ cC) 41 aC σ) H) (hPM : va_P D vwCl (zW (zcM aM cI cJ cC) 17 aM τ) H) (hS : va_S (fun q : Nat => s.heap.size ≤ q) s.heap H locs) (hl : lv_has ls 4 [(0, .ref b), (1, .ref (aC 0)), (2, .ref (aM 0)), (3, .int x3)]) (hend : ∀ (σ τ : ZS) (H : Heap) (locs : List Loc), R σ τ → va_P D vwCl (zW (zcC aC cI cJ cC) 41 aC σ) H → va_P D vwCl (zW (zcM aM cI cJ cC) 17 aM τ) H → va_S (fun q : Nat => s.heap.size ≤ q) s.heap H locs → ∀ ls : Array Slot, lv_has ls 4 [(0, .ref b), (1, .ref (aC 0)), (2, .ref (aM 0)), (3, .int x3)] → W p l e room_1 s m #[Value.ref b] below meth c H locs 58 1286 (lw_Z below #[Value.ref b] s) (F0 m 1441 ls [])) : W p l e room_1 s m #[Value.ref b] below meth c H locs 58 1286 (lw_Z below #[Value.ref b] s) (F0 m 343 ls []) := by
  obtain ⟨hx, hb, hr, hml, hown, hts0, hX, hbl, hlocks, hgv⟩ := C0
  obtain ⟨hK, hzC, hzM, hdis, hAC, hAM, hE⟩ := Z
  have hK2 : va_K D vwCl [(cI, .int), (cJ, .long)] s := hK.sub [0, 1] rfl
  have hts : ∀ w ∈ wsL_law, w.before #[Value.ref b] s = true := fun w h => hts0 w (wsL_law_in w h)
  have hown : s.vm.findClass RL = some m.cls := hown
  have hA : ∀ q : Nat, s.heap.size ≤ q → (fun q : Nat => s.heap.size ≤ q) q := fun _ h => h
  have hbA : ¬ (fun q : Nat => s.heap.size ≤ q) b := Nat.not_le.mpr hbl
  obtain ⟨r9, σ1, τ1, e1, e2, hR1⟩ := hstep σ τ  hR
  refine lv_aload_n hx hb dL_law_343 rfl (lv_at hl 1 rfl) ?_
  refine zw_calli hAC hA hS (zw_run (As := []) (rest := []) hx hb hml hown hts hK2 (zEC_good adK adV) hzC hAC hA hE hPC hS 0 (kX6_stack (l := l) (D := D) (a := aC) (cI := cI) (cJ := cJ) (cC := cC) (adK := adK) (adV := adV) e1 _) (cwV 0 hts gL_law_X6_stack rfl rfl rfl (by decide +kernel) ⟨Nat.le_of_ble_eq_true rfl, Nat.le_of_ble_eq_true rfl⟩) (by decide) (zcC_0 _ _ _ _ _ _) rfl rfl rfl hl.1 rfl (Nat.le_of_ble_eq_true rfl) ⟨Nat.le_of_ble_eq_true rfl, Nat.le_of_ble_eq_true rfl⟩ dL_law_344) (fun H locs hPC hS hk9 => ?_)
  have hPM := zw_kept hPM hdis hk9
  refine lv_aload_n hx hb dL_law_347 rfl (lv_at hl 2 rfl) ?_
  refine zw_calli hAM hA hS (zw_run (As := []) (rest := [.int r9]) hx hb hml hown hts hK zEM_good hzM hAM hA trivial hPM hS 0 (kX7_stack (l := l) (D := D) (a := aM) (cI := cI) (cJ := cJ) (cC := cC) e2 _) (cwV 0 hts gL_law_X7_stack rfl rfl rfl (by decide +kernel) ⟨Nat.le_of_ble_eq_true rfl, Nat.le_of_ble_eq_true rfl⟩) (by decide) (zcM_0 _ _ _ _ _ _) rfl rfl rfl hl.1 rfl (Nat.le_of_ble_eq_true rfl) ⟨Nat.le_of_ble_eq_true rfl, Nat.le_of_ble_eq_true rfl⟩ dL_law_348) (fun H locs hPM hS hk9 => ?_)
  have hPC := zw_kept hPC (fun i j hi hj => (hdis j i hj hi).symm) hk9
  exact lv_icmp_eq (tgt := 1441) hx hb dL_law_351 (by decide) (fun _ => hend _ _ _ _ hR1 hPC hPM hS ls hl) (fun c9 => absurd rfl c9)
set_option maxHeartbeats 4000000 in
set_option maxRecDepth 100000 in
theorem law_case6 {p : Program} {l : Launch} {e : Env} {s : State} {m : MethodId} {below : List Frame} {meth : Method} {c : Code} {b L : Nat} {xs : Nat → Int32} {D : va_G} {aC aM adK adV : Nat → Nat} {cI cJ cC : ClassId} {R : ZS → ZS → Prop} (hstep : zStep6 R) (C0 : lw_At p s m meth c b L xs) (Z : zLaw s D aC aM adK adV cI cJ cC) {x3 : Int32} (hin : ∀ k : Nat, k < 8 → vp_in (x3 + nI k) L) {σ τ : ZS} (hR : R σ τ) (H : Heap) (locs : List Loc) (ls : Array Slot) (hPC : va_P D vwCl (zW (zcC aC cI cJ cC) 41 aC σ) H) (hPM : va_P D vwCl (zW (zcM aM cI cJ cC) 17 aM τ) H) (hS : va_S (fun q : Nat => s.heap.size ≤ q) s.heap H locs) (hl : lv_has ls 4 [(0, .ref b), (1, .ref (aC 0)), (2, .ref (aM 0)), (3, .int x3)]) (hend : ∀ (σ τ : ZS) (H : Heap) (locs : List Loc), R σ τ → va_P D vwCl (zW (zcC aC cI cJ cC) 41 aC σ) H → va_P D vwCl (zW (zcM aM cI cJ cC) 17 aM τ) H → va_S (fun q : Nat => s.heap.size ≤ q) s.heap H locs → ∀ ls : Array Slot, lv_has ls 4 [(0, .ref b), (1, .ref (aC 0)), (2, .ref (aM 0)), (3, .int x3)] → W p l e room_1 s m #[Value.ref b] below meth c H locs 58 1286 (lw_Z below #[Value.ref b] s) (F0 m 1441 ls [])) : W p l e room_1 s m #[Value.ref b] below meth c H locs 58 1286 (lw_Z below #[Value.ref b] s) (F0 m 356 ls []) := by
  obtain ⟨hx, hb, hr, hml, hown, hts0, hX, hbl, hlocks, hgv⟩ := C0
  obtain ⟨hK, hzC, hzM, hdis, hAC, hAM, hE⟩ := Z
  have hK2 : va_K D vwCl [(cI, .int), (cJ, .long)] s := hK.sub [0, 1] rfl
  have hts : ∀ w ∈ wsL_law, w.before #[Value.ref b] s = true := fun w h => hts0 w (wsL_law_in w h)
  have hown : s.vm.findClass RL = some m.cls := hown
  have hA : ∀ q : Nat, s.heap.size ≤ q → (fun q : Nat => s.heap.size ≤ q) q := fun _ h => h
  have hbA : ¬ (fun q : Nat => s.heap.size ≤ q) b := Nat.not_le.mpr hbl
  obtain ⟨r9, σ1, τ1, e1, e2, hR1⟩ := hstep σ τ (xs (x3 + (1 : Int32)).toNatClampNeg) (xs (x3 + (2 : Int32)).toNatClampNeg) hR
  refine lv_aload_n hx hb dL_law_356 rfl (lv_at hl 1 rfl) ?_
  refine lv_aload_n hx hb dL_law_357 rfl (lv_at hl 0 rfl) ?_
  refine lv_iload_n hx hb dL_law_358 rfl (lv_at hl 3 rfl) ?_
  refine lv_iconst (v := 1) hx hb dL_law_359 (by decide) ?_
  refine lv_iadd hx hb dL_law_360 ?_
  refine va_sld hx hb hX hbl hbA hS (hin 1 (by decide)) dL_law_361 ?_
  refine lv_aload_n hx hb dL_law_362 rfl (lv_at hl 0 rfl) ?_
  refine lv_iload_n hx hb dL_law_363 rfl (lv_at hl 3 rfl) ?_
  refine lv_iconst (v := 2) hx hb dL_law_364 (by decide) ?_
  refine lv_iadd hx hb dL_law_365 ?_
  refine va_sld hx hb hX hbl hbA hS (hin 2 (by decide)) dL_law_366 ?_
  refine zw_calli hAC hA hS (zw_run (As := [.int (xs (x3 + (1 : Int32)).toNatClampNeg), .int (xs (x3 + (2 : Int32)).toNatClampNeg)]) (rest := []) hx hb hml hown hts hK2 (zEC_good adK adV) hzC hAC hA hE hPC hS 0 (kX6_lay (l := l) (D := D) (a := aC) (cI := cI) (cJ := cJ) (cC := cC) (adK := adK) (adV := adV) e1 _) (cwV 2 hts gL_law_X6_lay rfl rfl rfl (by decide +kernel) ⟨Nat.le_of_ble_eq_true rfl, Nat.le_of_ble_eq_true rfl⟩) (by decide) (zcC_0 _ _ _ _ _ _) rfl rfl rfl hl.1 rfl (Nat.le_of_ble_eq_true rfl) ⟨Nat.le_of_ble_eq_true rfl, Nat.le_of_ble_eq_true rfl⟩ dL_law_367) (fun H locs hPC hS hk9 => ?_)
  have hPM := zw_kept hPM hdis hk9
  refine lv_aload_n hx hb dL_law_370 rfl (lv_at hl 2 rfl) ?_
  refine lv_aload_n hx hb dL_law_371 rfl (lv_at hl 0 rfl) ?_
  refine lv_iload_n hx hb dL_law_372 rfl (lv_at hl 3 rfl) ?_
  refine lv_iconst (v := 1) hx hb dL_law_373 (by decide) ?_
  refine lv_iadd hx hb dL_law_374 ?_
  refine va_sld hx hb hX hbl hbA hS (hin 1 (by decide)) dL_law_375 ?_
  refine lv_aload_n hx hb dL_law_376 rfl (lv_at hl 0 rfl) ?_
  refine lv_iload_n hx hb dL_law_377 rfl (lv_at hl 3 rfl) ?_
  refine lv_iconst (v := 2) hx hb dL_law_378 (by decide) ?_
  refine lv_iadd hx hb dL_law_379 ?_
  refine va_sld hx hb hX hbl hbA hS (hin 2 (by decide)) dL_law_380 ?_
  refine zw_calli hAM hA hS (zw_run (As := [.int (xs (x3 + (1 : Int32)).toNatClampNeg), .int (xs (x3 + (2 : Int32)).toNatClampNeg)]) (rest := [.int r9]) hx hb hml hown hts hK zEM_good hzM hAM hA trivial hPM hS 0 (kX7_lay (l := l) (D := D) (a := aM) (cI := cI) (cJ := cJ) (cC := cC) e2 _) (cwV 2 hts gL_law_X7_lay rfl rfl rfl (by decide +kernel) ⟨Nat.le_of_ble_eq_true rfl, Nat.le_of_ble_eq_true rfl⟩) (by decide) (zcM_0 _ _ _ _ _ _) rfl rfl rfl hl.1 rfl (Nat.le_of_ble_eq_true rfl) ⟨Nat.le_of_ble_eq_true rfl, Nat.le_of_ble_eq_true rfl⟩ dL_law_381) (fun H locs hPM hS hk9 => ?_)
  have hPC := zw_kept hPC (fun i j hi hj => (hdis j i hj hi).symm) hk9
  exact lv_icmp_eq (tgt := 1441) hx hb dL_law_384 (by decide) (fun _ => hend _ _ _ _ hR1 hPC hPM hS ls hl) (fun c9 => absurd rfl c9)
set_option maxHeartbeats 4000000 in
set_option maxRecDepth 100000 in
theorem law_case7 {p : Program} {l : Launch} {e : Env} {s : State} {m : MethodId} {below : List Frame} {meth : Method} {c : Code} {b L : Nat} {xs : Nat → Int32} {D : va_G} {aC aM adK adV : Nat → Nat} {cI cJ cC : ClassId} {R : ZS → ZS → Prop} (hstep : zStep7 R) (C0 : lw_At p s m meth c b L xs) (Z : zLaw s D aC aM adK adV cI cJ cC) {x3 : Int32} (hin : ∀ k : Nat, k < 8 → vp_in (x3 + nI k) L) {σ τ : ZS} (hR : R σ τ) (H : Heap) (locs : List Loc) (ls : Array Slot) (hPC : va_P D vwCl (zW (zcC aC cI cJ cC) 41 aC σ) H) (hPM : va_P D vwCl (zW (zcM aM cI cJ cC) 17 aM τ) H) (hS : va_S (fun q : Nat => s.heap.size ≤ q) s.heap H locs) (hl : lv_has ls 4 [(0, .ref b), (1, .ref (aC 0)), (2, .ref (aM 0)), (3, .int x3)]) (hend : ∀ (σ τ : ZS) (H : Heap) (locs : List Loc), R σ τ → va_P D vwCl (zW (zcC aC cI cJ cC) 41 aC σ) H → va_P D vwCl (zW (zcM aM cI cJ cC) 17 aM τ) H → va_S (fun q : Nat => s.heap.size ≤ q) s.heap H locs → ∀ ls : Array Slot, lv_has ls 4 [(0, .ref b), (1, .ref (aC 0)), (2, .ref (aM 0)), (3, .int x3)] → W p l e room_1 s m #[Value.ref b] below meth c H locs 58 1286 (lw_Z below #[Value.ref b] s) (F0 m 1441 ls [])) : W p l e room_1 s m #[Value.ref b] below meth c H locs 58 1286 (lw_Z below #[Value.ref b] s) (F0 m 389 ls []) := by
  obtain ⟨hx, hb, hr, hml, hown, hts0, hX, hbl, hlocks, hgv⟩ := C0
  obtain ⟨hK, hzC, hzM, hdis, hAC, hAM, hE⟩ := Z
  have hK2 : va_K D vwCl [(cI, .int), (cJ, .long)] s := hK.sub [0, 1] rfl
  have hts : ∀ w ∈ wsL_law, w.before #[Value.ref b] s = true := fun w h => hts0 w (wsL_law_in w h)
  have hown : s.vm.findClass RL = some m.cls := hown
  have hA : ∀ q : Nat, s.heap.size ≤ q → (fun q : Nat => s.heap.size ≤ q) q := fun _ h => h
  have hbA : ¬ (fun q : Nat => s.heap.size ≤ q) b := Nat.not_le.mpr hbl
  obtain ⟨r9, σ1, τ1, e1, e2, hR1⟩ := hstep σ τ (xs (x3 + (1 : Int32)).toNatClampNeg) hR
  refine lv_aload_n hx hb dL_law_389 rfl (lv_at hl 1 rfl) ?_
  refine lv_aload_n hx hb dL_law_390 rfl (lv_at hl 0 rfl) ?_
  refine lv_iload_n hx hb dL_law_391 rfl (lv_at hl 3 rfl) ?_
  refine lv_iconst (v := 1) hx hb dL_law_392 (by decide) ?_
  refine lv_iadd hx hb dL_law_393 ?_
  refine va_sld hx hb hX hbl hbA hS (hin 1 (by decide)) dL_law_394 ?_
  refine zw_calli hAC hA hS (zw_run (As := [.int (xs (x3 + (1 : Int32)).toNatClampNeg)]) (rest := []) hx hb hml hown hts hK2 (zEC_good adK adV) hzC hAC hA hE hPC hS 0 (kX6_take (l := l) (D := D) (a := aC) (cI := cI) (cJ := cJ) (cC := cC) (adK := adK) (adV := adV) e1 _) (cwV 1 hts gL_law_X6_take rfl rfl rfl (by decide +kernel) ⟨Nat.le_of_ble_eq_true rfl, Nat.le_of_ble_eq_true rfl⟩) (by decide) (zcC_0 _ _ _ _ _ _) rfl rfl rfl hl.1 rfl (Nat.le_of_ble_eq_true rfl) ⟨Nat.le_of_ble_eq_true rfl, Nat.le_of_ble_eq_true rfl⟩ dL_law_395) (fun H locs hPC hS hk9 => ?_)
  have hPM := zw_kept hPM hdis hk9
  refine lv_aload_n hx hb dL_law_398 rfl (lv_at hl 2 rfl) ?_
  refine lv_aload_n hx hb dL_law_399 rfl (lv_at hl 0 rfl) ?_
  refine lv_iload_n hx hb dL_law_400 rfl (lv_at hl 3 rfl) ?_
  refine lv_iconst (v := 1) hx hb dL_law_401 (by decide) ?_
  refine lv_iadd hx hb dL_law_402 ?_
  refine va_sld hx hb hX hbl hbA hS (hin 1 (by decide)) dL_law_403 ?_
  refine zw_calli hAM hA hS (zw_run (As := [.int (xs (x3 + (1 : Int32)).toNatClampNeg)]) (rest := [.int r9]) hx hb hml hown hts hK zEM_good hzM hAM hA trivial hPM hS 0 (kX7_take (l := l) (D := D) (a := aM) (cI := cI) (cJ := cJ) (cC := cC) e2 _) (cwV 1 hts gL_law_X7_take rfl rfl rfl (by decide +kernel) ⟨Nat.le_of_ble_eq_true rfl, Nat.le_of_ble_eq_true rfl⟩) (by decide) (zcM_0 _ _ _ _ _ _) rfl rfl rfl hl.1 rfl (Nat.le_of_ble_eq_true rfl) ⟨Nat.le_of_ble_eq_true rfl, Nat.le_of_ble_eq_true rfl⟩ dL_law_404) (fun H locs hPM hS hk9 => ?_)
  have hPC := zw_kept hPC (fun i j hi hj => (hdis j i hj hi).symm) hk9
  exact lv_icmp_eq (tgt := 1441) hx hb dL_law_407 (by decide) (fun _ => hend _ _ _ _ hR1 hPC hPM hS ls hl) (fun c9 => absurd rfl c9)
set_option maxHeartbeats 4000000 in
set_option maxRecDepth 100000 in
theorem law_case8 {p : Program} {l : Launch} {e : Env} {s : State} {m : MethodId} {below : List Frame} {meth : Method} {c : Code} {b L : Nat} {xs : Nat → Int32} {D : va_G} {aC aM adK adV : Nat → Nat} {cI cJ cC : ClassId} {R : ZS → ZS → Prop} (hstep : zStep8 R) (C0 : lw_At p s m meth c b L xs) (Z : zLaw s D aC aM adK adV cI cJ cC) {x3 : Int32} (hin : ∀ k : Nat, k < 8 → vp_in (x3 + nI k) L) {σ τ : ZS} (hR : R σ τ) (H : Heap) (locs : List Loc) (ls : Array Slot) (hPC : va_P D vwCl (zW (zcC aC cI cJ cC) 41 aC σ) H) (hPM : va_P D vwCl (zW (zcM aM cI cJ cC) 17 aM τ) H) (hS : va_S (fun q : Nat => s.heap.size ≤ q) s.heap H locs) (hl : lv_has ls 4 [(0, .ref b), (1, .ref (aC 0)), (2, .ref (aM 0)), (3, .int x3)]) (hend : ∀ (σ τ : ZS) (H : Heap) (locs : List Loc), R σ τ → va_P D vwCl (zW (zcC aC cI cJ cC) 41 aC σ) H → va_P D vwCl (zW (zcM aM cI cJ cC) 17 aM τ) H → va_S (fun q : Nat => s.heap.size ≤ q) s.heap H locs → ∀ ls : Array Slot, lv_has ls 4 [(0, .ref b), (1, .ref (aC 0)), (2, .ref (aM 0)), (3, .int x3)] → W p l e room_1 s m #[Value.ref b] below meth c H locs 58 1286 (lw_Z below #[Value.ref b] s) (F0 m 1441 ls [])) : W p l e room_1 s m #[Value.ref b] below meth c H locs 58 1286 (lw_Z below #[Value.ref b] s) (F0 m 412 ls []) := by
  obtain ⟨hx, hb, hr, hml, hown, hts0, hX, hbl, hlocks, hgv⟩ := C0
  obtain ⟨hK, hzC, hzM, hdis, hAC, hAM, hE⟩ := Z
  have hK2 : va_K D vwCl [(cI, .int), (cJ, .long)] s := hK.sub [0, 1] rfl
  have hts : ∀ w ∈ wsL_law, w.before #[Value.ref b] s = true := fun w h => hts0 w (wsL_law_in w h)
  have hown : s.vm.findClass RL = some m.cls := hown
  have hA : ∀ q : Nat, s.heap.size ≤ q → (fun q : Nat => s.heap.size ≤ q) q := fun _ h => h
  have hbA : ¬ (fun q : Nat => s.heap.size ≤ q) b := Nat.not_le.mpr hbl
  obtain ⟨r9, σ1, τ1, e1, e2, hR1⟩ := hstep σ τ (xs (x3 + (1 : Int32)).toNatClampNeg) (xs (x3 + (2 : Int32)).toNatClampNeg) hR
  refine lv_aload_n hx hb dL_law_412 rfl (lv_at hl 1 rfl) ?_
  refine lv_aload_n hx hb dL_law_413 rfl (lv_at hl 0 rfl) ?_
  refine lv_iload_n hx hb dL_law_414 rfl (lv_at hl 3 rfl) ?_
  refine lv_iconst (v := 1) hx hb dL_law_415 (by decide) ?_
  refine lv_iadd hx hb dL_law_416 ?_
  refine va_sld hx hb hX hbl hbA hS (hin 1 (by decide)) dL_law_417 ?_
  refine lv_aload_n hx hb dL_law_418 rfl (lv_at hl 0 rfl) ?_
  refine lv_iload_n hx hb dL_law_419 rfl (lv_at hl 3 rfl) ?_
  refine lv_iconst (v := 2) hx hb dL_law_420 (by decide) ?_
  refine lv_iadd hx hb dL_law_421 ?_
  refine va_sld hx hb hX hbl hbA hS (hin 2 (by decide)) dL_law_422 ?_
  refine zw_calli hAC hA hS (zw_run (As := [.int (xs (x3 + (1 : Int32)).toNatClampNeg), .int (xs (x3 + (2 : Int32)).toNatClampNeg)]) (rest := []) hx hb hml hown hts hK2 (zEC_good adK adV) hzC hAC hA hE hPC hS 0 (kX6_at (l := l) (D := D) (a := aC) (cI := cI) (cJ := cJ) (cC := cC) (adK := adK) (adV := adV) e1 _) (cwV 2 hts gL_law_X6_at rfl rfl rfl (by decide +kernel) ⟨Nat.le_of_ble_eq_true rfl, Nat.le_of_ble_eq_true rfl⟩) (by decide) (zcC_0 _ _ _ _ _ _) rfl rfl rfl hl.1 rfl (Nat.le_of_ble_eq_true rfl) ⟨Nat.le_of_ble_eq_true rfl, Nat.le_of_ble_eq_true rfl⟩ dL_law_423) (fun H locs hPC hS hk9 => ?_)
  have hPM := zw_kept hPM hdis hk9
  refine lv_aload_n hx hb dL_law_426 rfl (lv_at hl 2 rfl) ?_
  refine lv_aload_n hx hb dL_law_427 rfl (lv_at hl 0 rfl) ?_
  refine lv_iload_n hx hb dL_law_428 rfl (lv_at hl 3 rfl) ?_
  refine lv_iconst (v := 1) hx hb dL_law_429 (by decide) ?_
  refine lv_iadd hx hb dL_law_430 ?_
  refine va_sld hx hb hX hbl hbA hS (hin 1 (by decide)) dL_law_431 ?_
  refine lv_aload_n hx hb dL_law_432 rfl (lv_at hl 0 rfl) ?_
  refine lv_iload_n hx hb dL_law_433 rfl (lv_at hl 3 rfl) ?_
  refine lv_iconst (v := 2) hx hb dL_law_434 (by decide) ?_
  refine lv_iadd hx hb dL_law_435 ?_
  refine va_sld hx hb hX hbl hbA hS (hin 2 (by decide)) dL_law_436 ?_
  refine zw_calli hAM hA hS (zw_run (As := [.int (xs (x3 + (1 : Int32)).toNatClampNeg), .int (xs (x3 + (2 : Int32)).toNatClampNeg)]) (rest := [.int r9]) hx hb hml hown hts hK zEM_good hzM hAM hA trivial hPM hS 0 (kX7_at (l := l) (D := D) (a := aM) (cI := cI) (cJ := cJ) (cC := cC) e2 _) (cwV 2 hts gL_law_X7_at rfl rfl rfl (by decide +kernel) ⟨Nat.le_of_ble_eq_true rfl, Nat.le_of_ble_eq_true rfl⟩) (by decide) (zcM_0 _ _ _ _ _ _) rfl rfl rfl hl.1 rfl (Nat.le_of_ble_eq_true rfl) ⟨Nat.le_of_ble_eq_true rfl, Nat.le_of_ble_eq_true rfl⟩ dL_law_437) (fun H locs hPM hS hk9 => ?_)
  have hPC := zw_kept hPC (fun i j hi hj => (hdis j i hj hi).symm) hk9
  exact lv_icmp_eq (tgt := 1441) hx hb dL_law_440 (by decide) (fun _ => hend _ _ _ _ hR1 hPC hPM hS ls hl) (fun c9 => absurd rfl c9)
set_option maxHeartbeats 4000000 in
set_option maxRecDepth 100000 in
theorem law_case9 {p : Program} {l : Launch} {e : Env} {s : State} {m : MethodId} {below : List Frame} {meth : Method} {c : Code} {b L : Nat} {xs : Nat → Int32} {D : va_G} {aC aM adK adV : Nat → Nat} {cI cJ cC : ClassId} {R : ZS → ZS → Prop} (hstep : zStep9 R) (C0 : lw_At p s m meth c b L xs) (Z : zLaw s D aC aM adK adV cI cJ cC) {x3 : Int32} (hin : ∀ k : Nat, k < 8 → vp_in (x3 + nI k) L) {σ τ : ZS} (hR : R σ τ) (H : Heap) (locs : List Loc) (ls : Array Slot) (hPC : va_P D vwCl (zW (zcC aC cI cJ cC) 41 aC σ) H) (hPM : va_P D vwCl (zW (zcM aM cI cJ cC) 17 aM τ) H) (hS : va_S (fun q : Nat => s.heap.size ≤ q) s.heap H locs) (hl : lv_has ls 4 [(0, .ref b), (1, .ref (aC 0)), (2, .ref (aM 0)), (3, .int x3)]) (hend : ∀ (σ τ : ZS) (H : Heap) (locs : List Loc), R σ τ → va_P D vwCl (zW (zcC aC cI cJ cC) 41 aC σ) H → va_P D vwCl (zW (zcM aM cI cJ cC) 17 aM τ) H → va_S (fun q : Nat => s.heap.size ≤ q) s.heap H locs → ∀ ls : Array Slot, lv_has ls 4 [(0, .ref b), (1, .ref (aC 0)), (2, .ref (aM 0)), (3, .int x3)] → W p l e room_1 s m #[Value.ref b] below meth c H locs 58 1286 (lw_Z below #[Value.ref b] s) (F0 m 1441 ls [])) : W p l e room_1 s m #[Value.ref b] below meth c H locs 58 1286 (lw_Z below #[Value.ref b] s) (F0 m 445 ls []) := by
  obtain ⟨hx, hb, hr, hml, hown, hts0, hX, hbl, hlocks, hgv⟩ := C0
  obtain ⟨hK, hzC, hzM, hdis, hAC, hAM, hE⟩ := Z
  have hK2 : va_K D vwCl [(cI, .int), (cJ, .long)] s := hK.sub [0, 1] rfl
  have hts : ∀ w ∈ wsL_law, w.before #[Value.ref b] s = true := fun w h => hts0 w (wsL_law_in w h)
  have hown : s.vm.findClass RL = some m.cls := hown
  have hA : ∀ q : Nat, s.heap.size ≤ q → (fun q : Nat => s.heap.size ≤ q) q := fun _ h => h
  have hbA : ¬ (fun q : Nat => s.heap.size ≤ q) b := Nat.not_le.mpr hbl
  obtain ⟨r9, σ1, τ1, e1, e2, hR1⟩ := hstep σ τ (xs (x3 + (1 : Int32)).toNatClampNeg) (xs (x3 + (2 : Int32)).toNatClampNeg) (xs (x3 + (3 : Int32)).toNatClampNeg) hR
  refine lv_aload_n hx hb dL_law_445 rfl (lv_at hl 1 rfl) ?_
  refine lv_aload_n hx hb dL_law_446 rfl (lv_at hl 0 rfl) ?_
  refine lv_iload_n hx hb dL_law_447 rfl (lv_at hl 3 rfl) ?_
  refine lv_iconst (v := 1) hx hb dL_law_448 (by decide) ?_
  refine lv_iadd hx hb dL_law_449 ?_
  refine va_sld hx hb hX hbl hbA hS (hin 1 (by decide)) dL_law_450 ?_
  refine lv_aload_n hx hb dL_law_451 rfl (lv_at hl 0 rfl) ?_
  refine lv_iload_n hx hb dL_law_452 rfl (lv_at hl 3 rfl) ?_
  refine lv_iconst (v := 2) hx hb dL_law_453 (by decide) ?_
  refine lv_iadd hx hb dL_law_454 ?_
  refine va_sld hx hb hX hbl hbA hS (hin 2 (by decide)) dL_law_455 ?_
  refine lv_aload_n hx hb dL_law_456 rfl (lv_at hl 0 rfl) ?_
  refine lv_iload_n hx hb dL_law_457 rfl (lv_at hl 3 rfl) ?_
  refine lv_iconst (v := 3) hx hb dL_law_458 (by decide) ?_
  refine lv_iadd hx hb dL_law_459 ?_
  refine va_sld hx hb hX hbl hbA hS (hin 3 (by decide)) dL_law_460 ?_
  refine zw_calli hAC hA hS (zw_run (As := [.int (xs (x3 + (1 : Int32)).toNatClampNeg), .int (xs (x3 + (2 : Int32)).toNatClampNeg), .int (xs (x3 + (3 : Int32)).toNatClampNeg)]) (rest := []) hx hb hml hown hts hK2 (zEC_good adK adV) hzC hAC hA hE hPC hS 0 (kX6_power (l := l) (D := D) (a := aC) (cI := cI) (cJ := cJ) (cC := cC) (adK := adK) (adV := adV) e1 _) (cwV 3 hts gL_law_X6_power rfl rfl rfl (by decide +kernel) ⟨Nat.le_of_ble_eq_true rfl, Nat.le_of_ble_eq_true rfl⟩) (by decide) (zcC_0 _ _ _ _ _ _) rfl rfl rfl hl.1 rfl (Nat.le_of_ble_eq_true rfl) ⟨Nat.le_of_ble_eq_true rfl, Nat.le_of_ble_eq_true rfl⟩ dL_law_461) (fun H locs hPC hS hk9 => ?_)
  have hPM := zw_kept hPM hdis hk9
  refine lv_aload_n hx hb dL_law_464 rfl (lv_at hl 2 rfl) ?_
  refine lv_aload_n hx hb dL_law_465 rfl (lv_at hl 0 rfl) ?_
  refine lv_iload_n hx hb dL_law_466 rfl (lv_at hl 3 rfl) ?_
  refine lv_iconst (v := 1) hx hb dL_law_467 (by decide) ?_
  refine lv_iadd hx hb dL_law_468 ?_
  refine va_sld hx hb hX hbl hbA hS (hin 1 (by decide)) dL_law_469 ?_
  refine lv_aload_n hx hb dL_law_470 rfl (lv_at hl 0 rfl) ?_
  refine lv_iload_n hx hb dL_law_471 rfl (lv_at hl 3 rfl) ?_
  refine lv_iconst (v := 2) hx hb dL_law_472 (by decide) ?_
  refine lv_iadd hx hb dL_law_473 ?_
  refine va_sld hx hb hX hbl hbA hS (hin 2 (by decide)) dL_law_474 ?_
  refine lv_aload_n hx hb dL_law_475 rfl (lv_at hl 0 rfl) ?_
  refine lv_iload_n hx hb dL_law_476 rfl (lv_at hl 3 rfl) ?_
  refine lv_iconst (v := 3) hx hb dL_law_477 (by decide) ?_
  refine lv_iadd hx hb dL_law_478 ?_
  refine va_sld hx hb hX hbl hbA hS (hin 3 (by decide)) dL_law_479 ?_
  refine zw_calli hAM hA hS (zw_run (As := [.int (xs (x3 + (1 : Int32)).toNatClampNeg), .int (xs (x3 + (2 : Int32)).toNatClampNeg), .int (xs (x3 + (3 : Int32)).toNatClampNeg)]) (rest := [.int r9]) hx hb hml hown hts hK zEM_good hzM hAM hA trivial hPM hS 0 (kX7_power (l := l) (D := D) (a := aM) (cI := cI) (cJ := cJ) (cC := cC) e2 _) (cwV 3 hts gL_law_X7_power rfl rfl rfl (by decide +kernel) ⟨Nat.le_of_ble_eq_true rfl, Nat.le_of_ble_eq_true rfl⟩) (by decide) (zcM_0 _ _ _ _ _ _) rfl rfl rfl hl.1 rfl (Nat.le_of_ble_eq_true rfl) ⟨Nat.le_of_ble_eq_true rfl, Nat.le_of_ble_eq_true rfl⟩ dL_law_480) (fun H locs hPM hS hk9 => ?_)
  have hPC := zw_kept hPC (fun i j hi hj => (hdis j i hj hi).symm) hk9
  exact lv_icmp_eq (tgt := 1441) hx hb dL_law_483 (by decide) (fun _ => hend _ _ _ _ hR1 hPC hPM hS ls hl) (fun c9 => absurd rfl c9)
set_option maxHeartbeats 4000000 in
set_option maxRecDepth 100000 in
theorem law_case10 {p : Program} {l : Launch} {e : Env} {s : State} {m : MethodId} {below : List Frame} {meth : Method} {c : Code} {b L : Nat} {xs : Nat → Int32} {D : va_G} {aC aM adK adV : Nat → Nat} {cI cJ cC : ClassId} {R : ZS → ZS → Prop} (hstep : zStep10 R) (C0 : lw_At p s m meth c b L xs) (Z : zLaw s D aC aM adK adV cI cJ cC) {x3 : Int32} (hin : ∀ k : Nat, k < 8 → vp_in (x3 + nI k) L) {σ τ : ZS} (hR : R σ τ) (H : Heap) (locs : List Loc) (ls : Array Slot) (hPC : va_P D vwCl (zW (zcC aC cI cJ cC) 41 aC σ) H) (hPM : va_P D vwCl (zW (zcM aM cI cJ cC) 17 aM τ) H) (hS : va_S (fun q : Nat => s.heap.size ≤ q) s.heap H locs) (hl : lv_has ls 4 [(0, .ref b), (1, .ref (aC 0)), (2, .ref (aM 0)), (3, .int x3)]) (hend : ∀ (σ τ : ZS) (H : Heap) (locs : List Loc), R σ τ → va_P D vwCl (zW (zcC aC cI cJ cC) 41 aC σ) H → va_P D vwCl (zW (zcM aM cI cJ cC) 17 aM τ) H → va_S (fun q : Nat => s.heap.size ≤ q) s.heap H locs → ∀ ls : Array Slot, lv_has ls 4 [(0, .ref b), (1, .ref (aC 0)), (2, .ref (aM 0)), (3, .int x3)] → W p l e room_1 s m #[Value.ref b] below meth c H locs 58 1286 (lw_Z below #[Value.ref b] s) (F0 m 1441 ls [])) : W p l e room_1 s m #[Value.ref b] below meth c H locs 58 1286 (lw_Z below #[Value.ref b] s) (F0 m 488 ls []) := by
  obtain ⟨hx, hb, hr, hml, hown, hts0, hX, hbl, hlocks, hgv⟩ := C0
  obtain ⟨hK, hzC, hzM, hdis, hAC, hAM, hE⟩ := Z
  have hK2 : va_K D vwCl [(cI, .int), (cJ, .long)] s := hK.sub [0, 1] rfl
  have hts : ∀ w ∈ wsL_law, w.before #[Value.ref b] s = true := fun w h => hts0 w (wsL_law_in w h)
  have hown : s.vm.findClass RL = some m.cls := hown
  have hA : ∀ q : Nat, s.heap.size ≤ q → (fun q : Nat => s.heap.size ≤ q) q := fun _ h => h
  have hbA : ¬ (fun q : Nat => s.heap.size ≤ q) b := Nat.not_le.mpr hbl
  obtain ⟨r9, σ1, τ1, e1, e2, hR1⟩ := hstep σ τ (xs (x3 + (1 : Int32)).toNatClampNeg) (xs (x3 + (2 : Int32)).toNatClampNeg) (xs (x3 + (3 : Int32)).toNatClampNeg) hR
  refine lv_aload_n hx hb dL_law_488 rfl (lv_at hl 1 rfl) ?_
  refine lv_aload_n hx hb dL_law_489 rfl (lv_at hl 0 rfl) ?_
  refine lv_iload_n hx hb dL_law_490 rfl (lv_at hl 3 rfl) ?_
  refine lv_iconst (v := 1) hx hb dL_law_491 (by decide) ?_
  refine lv_iadd hx hb dL_law_492 ?_
  refine va_sld hx hb hX hbl hbA hS (hin 1 (by decide)) dL_law_493 ?_
  refine lv_aload_n hx hb dL_law_494 rfl (lv_at hl 0 rfl) ?_
  refine lv_iload_n hx hb dL_law_495 rfl (lv_at hl 3 rfl) ?_
  refine lv_iconst (v := 2) hx hb dL_law_496 (by decide) ?_
  refine lv_iadd hx hb dL_law_497 ?_
  refine va_sld hx hb hX hbl hbA hS (hin 2 (by decide)) dL_law_498 ?_
  refine lv_aload_n hx hb dL_law_499 rfl (lv_at hl 0 rfl) ?_
  refine lv_iload_n hx hb dL_law_500 rfl (lv_at hl 3 rfl) ?_
  refine lv_iconst (v := 3) hx hb dL_law_501 (by decide) ?_
  refine lv_iadd hx hb dL_law_502 ?_
  refine va_sld hx hb hX hbl hbA hS (hin 3 (by decide)) dL_law_503 ?_
  refine zw_calli hAC hA hS (zw_run (As := [.int (xs (x3 + (1 : Int32)).toNatClampNeg), .int (xs (x3 + (2 : Int32)).toNatClampNeg), .int (xs (x3 + (3 : Int32)).toNatClampNeg)]) (rest := []) hx hb hml hown hts hK2 (zEC_good adK adV) hzC hAC hA hE hPC hS 0 (kX6_weight (l := l) (D := D) (a := aC) (cI := cI) (cJ := cJ) (cC := cC) (adK := adK) (adV := adV) e1 _) (cwV 3 hts gL_law_X6_weight rfl rfl rfl (by decide +kernel) ⟨Nat.le_of_ble_eq_true rfl, Nat.le_of_ble_eq_true rfl⟩) (by decide) (zcC_0 _ _ _ _ _ _) rfl rfl rfl hl.1 rfl (Nat.le_of_ble_eq_true rfl) ⟨Nat.le_of_ble_eq_true rfl, Nat.le_of_ble_eq_true rfl⟩ dL_law_504) (fun H locs hPC hS hk9 => ?_)
  have hPM := zw_kept hPM hdis hk9
  refine lv_aload_n hx hb dL_law_507 rfl (lv_at hl 2 rfl) ?_
  refine lv_aload_n hx hb dL_law_508 rfl (lv_at hl 0 rfl) ?_
  refine lv_iload_n hx hb dL_law_509 rfl (lv_at hl 3 rfl) ?_
  refine lv_iconst (v := 1) hx hb dL_law_510 (by decide) ?_
  refine lv_iadd hx hb dL_law_511 ?_
  refine va_sld hx hb hX hbl hbA hS (hin 1 (by decide)) dL_law_512 ?_
  refine lv_aload_n hx hb dL_law_513 rfl (lv_at hl 0 rfl) ?_
  refine lv_iload_n hx hb dL_law_514 rfl (lv_at hl 3 rfl) ?_
  refine lv_iconst (v := 2) hx hb dL_law_515 (by decide) ?_
  refine lv_iadd hx hb dL_law_516 ?_
  refine va_sld hx hb hX hbl hbA hS (hin 2 (by decide)) dL_law_517 ?_
  refine lv_aload_n hx hb dL_law_518 rfl (lv_at hl 0 rfl) ?_
  refine lv_iload_n hx hb dL_law_519 rfl (lv_at hl 3 rfl) ?_
  refine lv_iconst (v := 3) hx hb dL_law_520 (by decide) ?_
  refine lv_iadd hx hb dL_law_521 ?_
  refine va_sld hx hb hX hbl hbA hS (hin 3 (by decide)) dL_law_522 ?_
  refine zw_calli hAM hA hS (zw_run (As := [.int (xs (x3 + (1 : Int32)).toNatClampNeg), .int (xs (x3 + (2 : Int32)).toNatClampNeg), .int (xs (x3 + (3 : Int32)).toNatClampNeg)]) (rest := [.int r9]) hx hb hml hown hts hK zEM_good hzM hAM hA trivial hPM hS 0 (kX7_weight (l := l) (D := D) (a := aM) (cI := cI) (cJ := cJ) (cC := cC) e2 _) (cwV 3 hts gL_law_X7_weight rfl rfl rfl (by decide +kernel) ⟨Nat.le_of_ble_eq_true rfl, Nat.le_of_ble_eq_true rfl⟩) (by decide) (zcM_0 _ _ _ _ _ _) rfl rfl rfl hl.1 rfl (Nat.le_of_ble_eq_true rfl) ⟨Nat.le_of_ble_eq_true rfl, Nat.le_of_ble_eq_true rfl⟩ dL_law_523) (fun H locs hPM hS hk9 => ?_)
  have hPC := zw_kept hPC (fun i j hi hj => (hdis j i hj hi).symm) hk9
  exact lv_icmp_eq (tgt := 1441) hx hb dL_law_526 (by decide) (fun _ => hend _ _ _ _ hR1 hPC hPM hS ls hl) (fun c9 => absurd rfl c9)
set_option maxHeartbeats 4000000 in
set_option maxRecDepth 100000 in
theorem law_case11 {p : Program} {l : Launch} {e : Env} {s : State} {m : MethodId} {below : List Frame} {meth : Method} {c : Code} {b L : Nat} {xs : Nat → Int32} {D : va_G} {aC aM adK adV : Nat → Nat} {cI cJ cC : ClassId} {R : ZS → ZS → Prop} (hstep : zStep11 R) (C0 : lw_At p s m meth c b L xs) (Z : zLaw s D aC aM adK adV cI cJ cC) {x3 : Int32} (hin : ∀ k : Nat, k < 8 → vp_in (x3 + nI k) L) {σ τ : ZS} (hR : R σ τ) (H : Heap) (locs : List Loc) (ls : Array Slot) (hPC : va_P D vwCl (zW (zcC aC cI cJ cC) 41 aC σ) H) (hPM : va_P D vwCl (zW (zcM aM cI cJ cC) 17 aM τ) H) (hS : va_S (fun q : Nat => s.heap.size ≤ q) s.heap H locs) (hl : lv_has ls 4 [(0, .ref b), (1, .ref (aC 0)), (2, .ref (aM 0)), (3, .int x3)]) (hend : ∀ (σ τ : ZS) (H : Heap) (locs : List Loc), R σ τ → va_P D vwCl (zW (zcC aC cI cJ cC) 41 aC σ) H → va_P D vwCl (zW (zcM aM cI cJ cC) 17 aM τ) H → va_S (fun q : Nat => s.heap.size ≤ q) s.heap H locs → ∀ ls : Array Slot, lv_has ls 4 [(0, .ref b), (1, .ref (aC 0)), (2, .ref (aM 0)), (3, .int x3)] → W p l e room_1 s m #[Value.ref b] below meth c H locs 58 1286 (lw_Z below #[Value.ref b] s) (F0 m 1441 ls [])) : W p l e room_1 s m #[Value.ref b] below meth c H locs 58 1286 (lw_Z below #[Value.ref b] s) (F0 m 531 ls []) := by
  obtain ⟨hx, hb, hr, hml, hown, hts0, hX, hbl, hlocks, hgv⟩ := C0
  obtain ⟨hK, hzC, hzM, hdis, hAC, hAM, hE⟩ := Z
  have hK2 : va_K D vwCl [(cI, .int), (cJ, .long)] s := hK.sub [0, 1] rfl
  have hts : ∀ w ∈ wsL_law, w.before #[Value.ref b] s = true := fun w h => hts0 w (wsL_law_in w h)
  have hown : s.vm.findClass RL = some m.cls := hown
  have hA : ∀ q : Nat, s.heap.size ≤ q → (fun q : Nat => s.heap.size ≤ q) q := fun _ h => h
  have hbA : ¬ (fun q : Nat => s.heap.size ≤ q) b := Nat.not_le.mpr hbl
  obtain ⟨r9, σ1, τ1, e1, e2, hR1⟩ := hstep σ τ (xs (x3 + (1 : Int32)).toNatClampNeg) (xs (x3 + (2 : Int32)).toNatClampNeg) (xs (x3 + (3 : Int32)).toNatClampNeg) hR
  refine lv_aload_n hx hb dL_law_531 rfl (lv_at hl 1 rfl) ?_
  refine lv_aload_n hx hb dL_law_532 rfl (lv_at hl 0 rfl) ?_
  refine lv_iload_n hx hb dL_law_533 rfl (lv_at hl 3 rfl) ?_
  refine lv_iconst (v := 1) hx hb dL_law_534 (by decide) ?_
  refine lv_iadd hx hb dL_law_535 ?_
  refine va_sld hx hb hX hbl hbA hS (hin 1 (by decide)) dL_law_536 ?_
  refine lv_aload_n hx hb dL_law_537 rfl (lv_at hl 0 rfl) ?_
  refine lv_iload_n hx hb dL_law_538 rfl (lv_at hl 3 rfl) ?_
  refine lv_iconst (v := 2) hx hb dL_law_539 (by decide) ?_
  refine lv_iadd hx hb dL_law_540 ?_
  refine va_sld hx hb hX hbl hbA hS (hin 2 (by decide)) dL_law_541 ?_
  refine lv_aload_n hx hb dL_law_542 rfl (lv_at hl 0 rfl) ?_
  refine lv_iload_n hx hb dL_law_543 rfl (lv_at hl 3 rfl) ?_
  refine lv_iconst (v := 3) hx hb dL_law_544 (by decide) ?_
  refine lv_iadd hx hb dL_law_545 ?_
  refine va_sld hx hb hX hbl hbA hS (hin 3 (by decide)) dL_law_546 ?_
  refine zw_calll hAC hA hS (zw_run (As := [.int (xs (x3 + (1 : Int32)).toNatClampNeg), .int (xs (x3 + (2 : Int32)).toNatClampNeg), .int (xs (x3 + (3 : Int32)).toNatClampNeg)]) (rest := []) hx hb hml hown hts hK2 (zEC_good adK adV) hzC hAC hA hE hPC hS 0 (kX6_through (l := l) (D := D) (a := aC) (cI := cI) (cJ := cJ) (cC := cC) (adK := adK) (adV := adV) e1 _) (cwV 3 hts gL_law_X6_through rfl rfl rfl (by decide +kernel) ⟨Nat.le_of_ble_eq_true rfl, Nat.le_of_ble_eq_true rfl⟩) (by decide) (zcC_0 _ _ _ _ _ _) rfl rfl rfl hl.1 rfl (Nat.le_of_ble_eq_true rfl) ⟨Nat.le_of_ble_eq_true rfl, Nat.le_of_ble_eq_true rfl⟩ dL_law_547) (fun H locs hPC hS hk9 => ?_)
  have hPM := zw_kept hPM hdis hk9
  refine lv_aload_n hx hb dL_law_550 rfl (lv_at hl 2 rfl) ?_
  refine lv_aload_n hx hb dL_law_551 rfl (lv_at hl 0 rfl) ?_
  refine lv_iload_n hx hb dL_law_552 rfl (lv_at hl 3 rfl) ?_
  refine lv_iconst (v := 1) hx hb dL_law_553 (by decide) ?_
  refine lv_iadd hx hb dL_law_554 ?_
  refine va_sld hx hb hX hbl hbA hS (hin 1 (by decide)) dL_law_555 ?_
  refine lv_aload_n hx hb dL_law_556 rfl (lv_at hl 0 rfl) ?_
  refine lv_iload_n hx hb dL_law_557 rfl (lv_at hl 3 rfl) ?_
  refine lv_iconst (v := 2) hx hb dL_law_558 (by decide) ?_
  refine lv_iadd hx hb dL_law_559 ?_
  refine va_sld hx hb hX hbl hbA hS (hin 2 (by decide)) dL_law_560 ?_
  refine lv_aload_n hx hb dL_law_561 rfl (lv_at hl 0 rfl) ?_
  refine lv_iload_n hx hb dL_law_562 rfl (lv_at hl 3 rfl) ?_
  refine lv_iconst (v := 3) hx hb dL_law_563 (by decide) ?_
  refine lv_iadd hx hb dL_law_564 ?_
  refine va_sld hx hb hX hbl hbA hS (hin 3 (by decide)) dL_law_565 ?_
  refine zw_calll hAM hA hS (zw_run (As := [.int (xs (x3 + (1 : Int32)).toNatClampNeg), .int (xs (x3 + (2 : Int32)).toNatClampNeg), .int (xs (x3 + (3 : Int32)).toNatClampNeg)]) (rest := [.long r9]) hx hb hml hown hts hK zEM_good hzM hAM hA trivial hPM hS 0 (kX7_through (l := l) (D := D) (a := aM) (cI := cI) (cJ := cJ) (cC := cC) e2 _) (cwV 3 hts gL_law_X7_through rfl rfl rfl (by decide +kernel) ⟨Nat.le_of_ble_eq_true rfl, Nat.le_of_ble_eq_true rfl⟩) (by decide) (zcM_0 _ _ _ _ _ _) rfl rfl rfl hl.1 rfl (Nat.le_of_ble_eq_true rfl) ⟨Nat.le_of_ble_eq_true rfl, Nat.le_of_ble_eq_true rfl⟩ dL_law_566) (fun H locs hPM hS hk9 => ?_)
  have hPC := zw_kept hPC (fun i j hi hj => (hdis j i hj hi).symm) hk9
  refine W.lcmp hx hb dL_law_569 ?_
  exact lv_if_eq (tgt := 1441) hx hb dL_law_570 (by decide) (fun _ => hend _ _ _ _ hR1 hPC hPM hS ls hl) (fun c9 => absurd (lg_self _) c9)
