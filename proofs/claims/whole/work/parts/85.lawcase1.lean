set_option maxHeartbeats 4000000 in
set_option maxRecDepth 100000 in
theorem law_case12 {p : Program} {l : Launch} {e : Env} {s : State} {m : MethodId} {below : List Frame} {meth : Method} {c : Code} {b L : Nat} {xs : Nat → Int32} {D : va_G} {aC aM adK adV : Nat → Nat} {cI cJ cC : ClassId} {R : ZS → ZS → Prop} (hstep : zStep12 R) (C0 : lw_At p s m meth c b L xs) (Z : zLaw s D aC aM adK adV cI cJ cC) {x3 : Int32} (hin : ∀ k : Nat, k < 8 → vp_in (x3 + nI k) L) {σ τ : ZS} (hR : R σ τ) (H : Heap) (locs : List Loc) (ls : Array Slot) (hPC : va_P D vwCl (zW (zcC aC cI cJ cC) 41 aC σ) H) (hPM : va_P D vwCl (zW (zcM aM cI cJ cC) 17 aM τ) H) (hS : va_S (fun q : Nat => s.heap.size ≤ q) s.heap H locs) (hl : lv_has ls 4 [(0, .ref b), (1, .ref (aC 0)), (2, .ref (aM 0)), (3, .int x3)]) (hend : ∀ (σ τ : ZS) (H : Heap) (locs : List Loc), R σ τ → va_P D vwCl (zW (zcC aC cI cJ cC) 41 aC σ) H → va_P D vwCl (zW (zcM aM cI cJ cC) 17 aM τ) H → va_S (fun q : Nat => s.heap.size ≤ q) s.heap H locs → ∀ ls : Array Slot, lv_has ls 4 [(0, .ref b), (1, .ref (aC 0)), (2, .ref (aM 0)), (3, .int x3)] → W p l e room_1 s m #[Value.ref b] below meth c H locs 58 1286 (lw_Z below #[Value.ref b] s) (F0 m 1441 ls [])) : W p l e room_1 s m #[Value.ref b] below meth c H locs 58 1286 (lw_Z below #[Value.ref b] s) (F0 m 575 ls []) := by
  obtain ⟨hx, hb, hr, hml, hown, hts0, hX, hbl, hlocks, hgv⟩ := C0
  obtain ⟨hK, hzC, hzM, hdis, hAC, hAM, hE⟩ := Z
  have hK2 : va_K D vwCl [(cI, .int), (cJ, .long)] s := hK.sub [0, 1] rfl
  have hts : ∀ w ∈ wsL_law, w.before #[Value.ref b] s = true := fun w h => hts0 w (wsL_law_in w h)
  have hown : s.vm.findClass RL = some m.cls := hown
  have hA : ∀ q : Nat, s.heap.size ≤ q → (fun q : Nat => s.heap.size ≤ q) q := fun _ h => h
  have hbA : ¬ (fun q : Nat => s.heap.size ≤ q) b := Nat.not_le.mpr hbl
  obtain ⟨r9, σ1, τ1, e1, e2, hR1⟩ := hstep σ τ (xs (x3 + (1 : Int32)).toNatClampNeg) (xs (x3 + (2 : Int32)).toNatClampNeg) (xs (x3 + (3 : Int32)).toNatClampNeg) (xs (x3 + (4 : Int32)).toNatClampNeg) (xs (x3 + (5 : Int32)).toNatClampNeg) hR
  refine lv_aload_n hx hb dL_law_575 rfl (lv_at hl 1 rfl) ?_
  refine lv_aload_n hx hb dL_law_576 rfl (lv_at hl 0 rfl) ?_
  refine lv_iload_n hx hb dL_law_577 rfl (lv_at hl 3 rfl) ?_
  refine lv_iconst (v := 1) hx hb dL_law_578 (by decide) ?_
  refine lv_iadd hx hb dL_law_579 ?_
  refine va_sld hx hb hX hbl hbA hS (hin 1 (by decide)) dL_law_580 ?_
  refine lv_aload_n hx hb dL_law_581 rfl (lv_at hl 0 rfl) ?_
  refine lv_iload_n hx hb dL_law_582 rfl (lv_at hl 3 rfl) ?_
  refine lv_iconst (v := 2) hx hb dL_law_583 (by decide) ?_
  refine lv_iadd hx hb dL_law_584 ?_
  refine va_sld hx hb hX hbl hbA hS (hin 2 (by decide)) dL_law_585 ?_
  refine lv_aload_n hx hb dL_law_586 rfl (lv_at hl 0 rfl) ?_
  refine lv_iload_n hx hb dL_law_587 rfl (lv_at hl 3 rfl) ?_
  refine lv_iconst (v := 3) hx hb dL_law_588 (by decide) ?_
  refine lv_iadd hx hb dL_law_589 ?_
  refine va_sld hx hb hX hbl hbA hS (hin 3 (by decide)) dL_law_590 ?_
  refine lv_aload_n hx hb dL_law_591 rfl (lv_at hl 0 rfl) ?_
  refine lv_iload_n hx hb dL_law_592 rfl (lv_at hl 3 rfl) ?_
  refine lv_iconst (v := 4) hx hb dL_law_593 (by decide) ?_
  refine lv_iadd hx hb dL_law_594 ?_
  refine va_sld hx hb hX hbl hbA hS (hin 4 (by decide)) dL_law_595 ?_
  refine lv_aload_n hx hb dL_law_596 rfl (lv_at hl 0 rfl) ?_
  refine lv_iload_n hx hb dL_law_597 rfl (lv_at hl 3 rfl) ?_
  refine lv_iconst (v := 5) hx hb dL_law_598 (by decide) ?_
  refine lv_iadd hx hb dL_law_599 ?_
  refine va_sld hx hb hX hbl hbA hS (hin 5 (by decide)) dL_law_600 ?_
  refine zw_calll hAC hA hS (zw_run (As := [.int (xs (x3 + (1 : Int32)).toNatClampNeg), .int (xs (x3 + (2 : Int32)).toNatClampNeg), .int (xs (x3 + (3 : Int32)).toNatClampNeg), .int (xs (x3 + (4 : Int32)).toNatClampNeg), .int (xs (x3 + (5 : Int32)).toNatClampNeg)]) (rest := []) hx hb hml hown hts hK2 (zEC_good adK adV) hzC hAC hA hE hPC hS 0 (kX6_sees (l := l) (D := D) (a := aC) (cI := cI) (cJ := cJ) (cC := cC) (adK := adK) (adV := adV) e1 _) (cwV 5 hts gL_law_X6_sees rfl rfl rfl (by decide +kernel) ⟨Nat.le_of_ble_eq_true rfl, Nat.le_of_ble_eq_true rfl⟩) (by decide) (zcC_0 _ _ _ _ _ _) rfl rfl rfl hl.1 rfl (Nat.le_of_ble_eq_true rfl) ⟨Nat.le_of_ble_eq_true rfl, Nat.le_of_ble_eq_true rfl⟩ dL_law_601) (fun H locs hPC hS hk9 => ?_)
  have hPM := zw_kept hPM hdis hk9
  refine lv_aload_n hx hb dL_law_604 rfl (lv_at hl 2 rfl) ?_
  refine lv_aload_n hx hb dL_law_605 rfl (lv_at hl 0 rfl) ?_
  refine lv_iload_n hx hb dL_law_606 rfl (lv_at hl 3 rfl) ?_
  refine lv_iconst (v := 1) hx hb dL_law_607 (by decide) ?_
  refine lv_iadd hx hb dL_law_608 ?_
  refine va_sld hx hb hX hbl hbA hS (hin 1 (by decide)) dL_law_609 ?_
  refine lv_aload_n hx hb dL_law_610 rfl (lv_at hl 0 rfl) ?_
  refine lv_iload_n hx hb dL_law_611 rfl (lv_at hl 3 rfl) ?_
  refine lv_iconst (v := 2) hx hb dL_law_612 (by decide) ?_
  refine lv_iadd hx hb dL_law_613 ?_
  refine va_sld hx hb hX hbl hbA hS (hin 2 (by decide)) dL_law_614 ?_
  refine lv_aload_n hx hb dL_law_615 rfl (lv_at hl 0 rfl) ?_
  refine lv_iload_n hx hb dL_law_616 rfl (lv_at hl 3 rfl) ?_
  refine lv_iconst (v := 3) hx hb dL_law_617 (by decide) ?_
  refine lv_iadd hx hb dL_law_618 ?_
  refine va_sld hx hb hX hbl hbA hS (hin 3 (by decide)) dL_law_619 ?_
  refine lv_aload_n hx hb dL_law_620 rfl (lv_at hl 0 rfl) ?_
  refine lv_iload_n hx hb dL_law_621 rfl (lv_at hl 3 rfl) ?_
  refine lv_iconst (v := 4) hx hb dL_law_622 (by decide) ?_
  refine lv_iadd hx hb dL_law_623 ?_
  refine va_sld hx hb hX hbl hbA hS (hin 4 (by decide)) dL_law_624 ?_
  refine lv_aload_n hx hb dL_law_625 rfl (lv_at hl 0 rfl) ?_
  refine lv_iload_n hx hb dL_law_626 rfl (lv_at hl 3 rfl) ?_
  refine lv_iconst (v := 5) hx hb dL_law_627 (by decide) ?_
  refine lv_iadd hx hb dL_law_628 ?_
  refine va_sld hx hb hX hbl hbA hS (hin 5 (by decide)) dL_law_629 ?_
  refine zw_calll hAM hA hS (zw_run (As := [.int (xs (x3 + (1 : Int32)).toNatClampNeg), .int (xs (x3 + (2 : Int32)).toNatClampNeg), .int (xs (x3 + (3 : Int32)).toNatClampNeg), .int (xs (x3 + (4 : Int32)).toNatClampNeg), .int (xs (x3 + (5 : Int32)).toNatClampNeg)]) (rest := [.long r9]) hx hb hml hown hts hK zEM_good hzM hAM hA trivial hPM hS 0 (kX7_sees (l := l) (D := D) (a := aM) (cI := cI) (cJ := cJ) (cC := cC) e2 _) (cwV 5 hts gL_law_X7_sees rfl rfl rfl (by decide +kernel) ⟨Nat.le_of_ble_eq_true rfl, Nat.le_of_ble_eq_true rfl⟩) (by decide) (zcM_0 _ _ _ _ _ _) rfl rfl rfl hl.1 rfl (Nat.le_of_ble_eq_true rfl) ⟨Nat.le_of_ble_eq_true rfl, Nat.le_of_ble_eq_true rfl⟩ dL_law_630) (fun H locs hPM hS hk9 => ?_)
  have hPC := zw_kept hPC (fun i j hi hj => (hdis j i hj hi).symm) hk9
  refine W.lcmp hx hb dL_law_633 ?_
  exact lv_if_eq (tgt := 1441) hx hb dL_law_634 (by decide) (fun _ => hend _ _ _ _ hR1 hPC hPM hS ls hl) (fun c9 => absurd (lg_self _) c9)
set_option maxHeartbeats 4000000 in
set_option maxRecDepth 100000 in
theorem law_case13 {p : Program} {l : Launch} {e : Env} {s : State} {m : MethodId} {below : List Frame} {meth : Method} {c : Code} {b L : Nat} {xs : Nat → Int32} {D : va_G} {aC aM adK adV : Nat → Nat} {cI cJ cC : ClassId} {R : ZS → ZS → Prop} (hstep : zStep13 R) (C0 : lw_At p s m meth c b L xs) (Z : zLaw s D aC aM adK adV cI cJ cC) {x3 : Int32} (hin : ∀ k : Nat, k < 8 → vp_in (x3 + nI k) L) {σ τ : ZS} (hR : R σ τ) (H : Heap) (locs : List Loc) (ls : Array Slot) (hPC : va_P D vwCl (zW (zcC aC cI cJ cC) 41 aC σ) H) (hPM : va_P D vwCl (zW (zcM aM cI cJ cC) 17 aM τ) H) (hS : va_S (fun q : Nat => s.heap.size ≤ q) s.heap H locs) (hl : lv_has ls 4 [(0, .ref b), (1, .ref (aC 0)), (2, .ref (aM 0)), (3, .int x3)]) (hend : ∀ (σ τ : ZS) (H : Heap) (locs : List Loc), R σ τ → va_P D vwCl (zW (zcC aC cI cJ cC) 41 aC σ) H → va_P D vwCl (zW (zcM aM cI cJ cC) 17 aM τ) H → va_S (fun q : Nat => s.heap.size ≤ q) s.heap H locs → ∀ ls : Array Slot, lv_has ls 4 [(0, .ref b), (1, .ref (aC 0)), (2, .ref (aM 0)), (3, .int x3)] → W p l e room_1 s m #[Value.ref b] below meth c H locs 58 1286 (lw_Z below #[Value.ref b] s) (F0 m 1441 ls [])) : W p l e room_1 s m #[Value.ref b] below meth c H locs 58 1286 (lw_Z below #[Value.ref b] s) (F0 m 639 ls []) := by
  obtain ⟨hx, hb, hr, hml, hown, hts0, hX, hbl, hlocks, hgv⟩ := C0
  obtain ⟨hK, hzC, hzM, hdis, hAC, hAM, hE⟩ := Z
  have hK2 : va_K D vwCl [(cI, .int), (cJ, .long)] s := hK.sub [0, 1] rfl
  have hts : ∀ w ∈ wsL_law, w.before #[Value.ref b] s = true := fun w h => hts0 w (wsL_law_in w h)
  have hown : s.vm.findClass RL = some m.cls := hown
  have hA : ∀ q : Nat, s.heap.size ≤ q → (fun q : Nat => s.heap.size ≤ q) q := fun _ h => h
  have hbA : ¬ (fun q : Nat => s.heap.size ≤ q) b := Nat.not_le.mpr hbl
  obtain ⟨r9, σ1, τ1, e1, e2, hR1⟩ := hstep σ τ (xs (x3 + (1 : Int32)).toNatClampNeg) (xs (x3 + (2 : Int32)).toNatClampNeg) (xs (x3 + (3 : Int32)).toNatClampNeg) (xs (x3 + (4 : Int32)).toNatClampNeg) hR
  refine lv_aload_n hx hb dL_law_639 rfl (lv_at hl 1 rfl) ?_
  refine lv_aload_n hx hb dL_law_640 rfl (lv_at hl 0 rfl) ?_
  refine lv_iload_n hx hb dL_law_641 rfl (lv_at hl 3 rfl) ?_
  refine lv_iconst (v := 1) hx hb dL_law_642 (by decide) ?_
  refine lv_iadd hx hb dL_law_643 ?_
  refine va_sld hx hb hX hbl hbA hS (hin 1 (by decide)) dL_law_644 ?_
  refine lv_aload_n hx hb dL_law_645 rfl (lv_at hl 0 rfl) ?_
  refine lv_iload_n hx hb dL_law_646 rfl (lv_at hl 3 rfl) ?_
  refine lv_iconst (v := 2) hx hb dL_law_647 (by decide) ?_
  refine lv_iadd hx hb dL_law_648 ?_
  refine va_sld hx hb hX hbl hbA hS (hin 2 (by decide)) dL_law_649 ?_
  refine lv_aload_n hx hb dL_law_650 rfl (lv_at hl 0 rfl) ?_
  refine lv_iload_n hx hb dL_law_651 rfl (lv_at hl 3 rfl) ?_
  refine lv_iconst (v := 3) hx hb dL_law_652 (by decide) ?_
  refine lv_iadd hx hb dL_law_653 ?_
  refine va_sld hx hb hX hbl hbA hS (hin 3 (by decide)) dL_law_654 ?_
  refine lv_aload_n hx hb dL_law_655 rfl (lv_at hl 0 rfl) ?_
  refine lv_iload_n hx hb dL_law_656 rfl (lv_at hl 3 rfl) ?_
  refine lv_iconst (v := 4) hx hb dL_law_657 (by decide) ?_
  refine lv_iadd hx hb dL_law_658 ?_
  refine va_sld hx hb hX hbl hbA hS (hin 4 (by decide)) dL_law_659 ?_
  refine zw_calli hAC hA hS (zw_run (As := [.int (xs (x3 + (1 : Int32)).toNatClampNeg), .int (xs (x3 + (2 : Int32)).toNatClampNeg), .int (xs (x3 + (3 : Int32)).toNatClampNeg), .int (xs (x3 + (4 : Int32)).toNatClampNeg)]) (rest := []) hx hb hml hown hts hK2 (zEC_good adK adV) hzC hAC hA hE hPC hS 0 (kX6_shade (l := l) (D := D) (a := aC) (cI := cI) (cJ := cJ) (cC := cC) (adK := adK) (adV := adV) e1 _) (cwV 4 hts gL_law_X6_shade rfl rfl rfl (by decide +kernel) ⟨Nat.le_of_ble_eq_true rfl, Nat.le_of_ble_eq_true rfl⟩) (by decide) (zcC_0 _ _ _ _ _ _) rfl rfl rfl hl.1 rfl (Nat.le_of_ble_eq_true rfl) ⟨Nat.le_of_ble_eq_true rfl, Nat.le_of_ble_eq_true rfl⟩ dL_law_660) (fun H locs hPC hS hk9 => ?_)
  have hPM := zw_kept hPM hdis hk9
  refine lv_aload_n hx hb dL_law_663 rfl (lv_at hl 2 rfl) ?_
  refine lv_aload_n hx hb dL_law_664 rfl (lv_at hl 0 rfl) ?_
  refine lv_iload_n hx hb dL_law_665 rfl (lv_at hl 3 rfl) ?_
  refine lv_iconst (v := 1) hx hb dL_law_666 (by decide) ?_
  refine lv_iadd hx hb dL_law_667 ?_
  refine va_sld hx hb hX hbl hbA hS (hin 1 (by decide)) dL_law_668 ?_
  refine lv_aload_n hx hb dL_law_669 rfl (lv_at hl 0 rfl) ?_
  refine lv_iload_n hx hb dL_law_670 rfl (lv_at hl 3 rfl) ?_
  refine lv_iconst (v := 2) hx hb dL_law_671 (by decide) ?_
  refine lv_iadd hx hb dL_law_672 ?_
  refine va_sld hx hb hX hbl hbA hS (hin 2 (by decide)) dL_law_673 ?_
  refine lv_aload_n hx hb dL_law_674 rfl (lv_at hl 0 rfl) ?_
  refine lv_iload_n hx hb dL_law_675 rfl (lv_at hl 3 rfl) ?_
  refine lv_iconst (v := 3) hx hb dL_law_676 (by decide) ?_
  refine lv_iadd hx hb dL_law_677 ?_
  refine va_sld hx hb hX hbl hbA hS (hin 3 (by decide)) dL_law_678 ?_
  refine lv_aload_n hx hb dL_law_679 rfl (lv_at hl 0 rfl) ?_
  refine lv_iload_n hx hb dL_law_680 rfl (lv_at hl 3 rfl) ?_
  refine lv_iconst (v := 4) hx hb dL_law_681 (by decide) ?_
  refine lv_iadd hx hb dL_law_682 ?_
  refine va_sld hx hb hX hbl hbA hS (hin 4 (by decide)) dL_law_683 ?_
  refine zw_calli hAM hA hS (zw_run (As := [.int (xs (x3 + (1 : Int32)).toNatClampNeg), .int (xs (x3 + (2 : Int32)).toNatClampNeg), .int (xs (x3 + (3 : Int32)).toNatClampNeg), .int (xs (x3 + (4 : Int32)).toNatClampNeg)]) (rest := [.int r9]) hx hb hml hown hts hK zEM_good hzM hAM hA trivial hPM hS 0 (kX7_shade (l := l) (D := D) (a := aM) (cI := cI) (cJ := cJ) (cC := cC) e2 _) (cwV 4 hts gL_law_X7_shade rfl rfl rfl (by decide +kernel) ⟨Nat.le_of_ble_eq_true rfl, Nat.le_of_ble_eq_true rfl⟩) (by decide) (zcM_0 _ _ _ _ _ _) rfl rfl rfl hl.1 rfl (Nat.le_of_ble_eq_true rfl) ⟨Nat.le_of_ble_eq_true rfl, Nat.le_of_ble_eq_true rfl⟩ dL_law_684) (fun H locs hPM hS hk9 => ?_)
  have hPC := zw_kept hPC (fun i j hi hj => (hdis j i hj hi).symm) hk9
  exact lv_icmp_eq (tgt := 1441) hx hb dL_law_687 (by decide) (fun _ => hend _ _ _ _ hR1 hPC hPM hS ls hl) (fun c9 => absurd rfl c9)
set_option maxHeartbeats 4000000 in
set_option maxRecDepth 100000 in
theorem law_case14 {p : Program} {l : Launch} {e : Env} {s : State} {m : MethodId} {below : List Frame} {meth : Method} {c : Code} {b L : Nat} {xs : Nat → Int32} {D : va_G} {aC aM adK adV : Nat → Nat} {cI cJ cC : ClassId} {R : ZS → ZS → Prop} (hstep : zStep14 R) (C0 : lw_At p s m meth c b L xs) (Z : zLaw s D aC aM adK adV cI cJ cC) {x3 : Int32} (hin : ∀ k : Nat, k < 8 → vp_in (x3 + nI k) L) {σ τ : ZS} (hR : R σ τ) (H : Heap) (locs : List Loc) (ls : Array Slot) (hPC : va_P D vwCl (zW (zcC aC cI cJ cC) 41 aC σ) H) (hPM : va_P D vwCl (zW (zcM aM cI cJ cC) 17 aM τ) H) (hS : va_S (fun q : Nat => s.heap.size ≤ q) s.heap H locs) (hl : lv_has ls 4 [(0, .ref b), (1, .ref (aC 0)), (2, .ref (aM 0)), (3, .int x3)]) (hend : ∀ (σ τ : ZS) (H : Heap) (locs : List Loc), R σ τ → va_P D vwCl (zW (zcC aC cI cJ cC) 41 aC σ) H → va_P D vwCl (zW (zcM aM cI cJ cC) 17 aM τ) H → va_S (fun q : Nat => s.heap.size ≤ q) s.heap H locs → ∀ ls : Array Slot, lv_has ls 4 [(0, .ref b), (1, .ref (aC 0)), (2, .ref (aM 0)), (3, .int x3)] → W p l e room_1 s m #[Value.ref b] below meth c H locs 58 1286 (lw_Z below #[Value.ref b] s) (F0 m 1441 ls [])) : W p l e room_1 s m #[Value.ref b] below meth c H locs 58 1286 (lw_Z below #[Value.ref b] s) (F0 m 692 ls []) := by
  obtain ⟨hx, hb, hr, hml, hown, hts0, hX, hbl, hlocks, hgv⟩ := C0
  obtain ⟨hK, hzC, hzM, hdis, hAC, hAM, hE⟩ := Z
  have hK2 : va_K D vwCl [(cI, .int), (cJ, .long)] s := hK.sub [0, 1] rfl
  have hts : ∀ w ∈ wsL_law, w.before #[Value.ref b] s = true := fun w h => hts0 w (wsL_law_in w h)
  have hown : s.vm.findClass RL = some m.cls := hown
  have hA : ∀ q : Nat, s.heap.size ≤ q → (fun q : Nat => s.heap.size ≤ q) q := fun _ h => h
  have hbA : ¬ (fun q : Nat => s.heap.size ≤ q) b := Nat.not_le.mpr hbl
  obtain ⟨r9, σ1, τ1, e1, e2, hR1⟩ := hstep σ τ (xs (x3 + (1 : Int32)).toNatClampNeg) (xs (x3 + (2 : Int32)).toNatClampNeg) (xs (x3 + (3 : Int32)).toNatClampNeg) hR
  refine lv_aload_n hx hb dL_law_692 rfl (lv_at hl 1 rfl) ?_
  refine lv_aload_n hx hb dL_law_693 rfl (lv_at hl 0 rfl) ?_
  refine lv_iload_n hx hb dL_law_694 rfl (lv_at hl 3 rfl) ?_
  refine lv_iconst (v := 1) hx hb dL_law_695 (by decide) ?_
  refine lv_iadd hx hb dL_law_696 ?_
  refine va_sld hx hb hX hbl hbA hS (hin 1 (by decide)) dL_law_697 ?_
  refine lv_aload_n hx hb dL_law_698 rfl (lv_at hl 0 rfl) ?_
  refine lv_iload_n hx hb dL_law_699 rfl (lv_at hl 3 rfl) ?_
  refine lv_iconst (v := 2) hx hb dL_law_700 (by decide) ?_
  refine lv_iadd hx hb dL_law_701 ?_
  refine va_sld hx hb hX hbl hbA hS (hin 2 (by decide)) dL_law_702 ?_
  refine lv_aload_n hx hb dL_law_703 rfl (lv_at hl 0 rfl) ?_
  refine lv_iload_n hx hb dL_law_704 rfl (lv_at hl 3 rfl) ?_
  refine lv_iconst (v := 3) hx hb dL_law_705 (by decide) ?_
  refine lv_iadd hx hb dL_law_706 ?_
  refine va_sld hx hb hX hbl hbA hS (hin 3 (by decide)) dL_law_707 ?_
  refine zw_calli hAC hA hS (zw_run (As := [.int (xs (x3 + (1 : Int32)).toNatClampNeg), .int (xs (x3 + (2 : Int32)).toNatClampNeg), .int (xs (x3 + (3 : Int32)).toNatClampNeg)]) (rest := []) hx hb hml hown hts hK2 (zEC_good adK adV) hzC hAC hA hE hPC hS 0 (kX6_alike (l := l) (D := D) (a := aC) (cI := cI) (cJ := cJ) (cC := cC) (adK := adK) (adV := adV) e1 _) (cwV 3 hts gL_law_X6_alike rfl rfl rfl (by decide +kernel) ⟨Nat.le_of_ble_eq_true rfl, Nat.le_of_ble_eq_true rfl⟩) (by decide) (zcC_0 _ _ _ _ _ _) rfl rfl rfl hl.1 rfl (Nat.le_of_ble_eq_true rfl) ⟨Nat.le_of_ble_eq_true rfl, Nat.le_of_ble_eq_true rfl⟩ dL_law_708) (fun H locs hPC hS hk9 => ?_)
  have hPM := zw_kept hPM hdis hk9
  refine lv_aload_n hx hb dL_law_711 rfl (lv_at hl 2 rfl) ?_
  refine lv_aload_n hx hb dL_law_712 rfl (lv_at hl 0 rfl) ?_
  refine lv_iload_n hx hb dL_law_713 rfl (lv_at hl 3 rfl) ?_
  refine lv_iconst (v := 1) hx hb dL_law_714 (by decide) ?_
  refine lv_iadd hx hb dL_law_715 ?_
  refine va_sld hx hb hX hbl hbA hS (hin 1 (by decide)) dL_law_716 ?_
  refine lv_aload_n hx hb dL_law_717 rfl (lv_at hl 0 rfl) ?_
  refine lv_iload_n hx hb dL_law_718 rfl (lv_at hl 3 rfl) ?_
  refine lv_iconst (v := 2) hx hb dL_law_719 (by decide) ?_
  refine lv_iadd hx hb dL_law_720 ?_
  refine va_sld hx hb hX hbl hbA hS (hin 2 (by decide)) dL_law_721 ?_
  refine lv_aload_n hx hb dL_law_722 rfl (lv_at hl 0 rfl) ?_
  refine lv_iload_n hx hb dL_law_723 rfl (lv_at hl 3 rfl) ?_
  refine lv_iconst (v := 3) hx hb dL_law_724 (by decide) ?_
  refine lv_iadd hx hb dL_law_725 ?_
  refine va_sld hx hb hX hbl hbA hS (hin 3 (by decide)) dL_law_726 ?_
  refine zw_calli hAM hA hS (zw_run (As := [.int (xs (x3 + (1 : Int32)).toNatClampNeg), .int (xs (x3 + (2 : Int32)).toNatClampNeg), .int (xs (x3 + (3 : Int32)).toNatClampNeg)]) (rest := [.int r9]) hx hb hml hown hts hK zEM_good hzM hAM hA trivial hPM hS 0 (kX7_alike (l := l) (D := D) (a := aM) (cI := cI) (cJ := cJ) (cC := cC) e2 _) (cwV 3 hts gL_law_X7_alike rfl rfl rfl (by decide +kernel) ⟨Nat.le_of_ble_eq_true rfl, Nat.le_of_ble_eq_true rfl⟩) (by decide) (zcM_0 _ _ _ _ _ _) rfl rfl rfl hl.1 rfl (Nat.le_of_ble_eq_true rfl) ⟨Nat.le_of_ble_eq_true rfl, Nat.le_of_ble_eq_true rfl⟩ dL_law_727) (fun H locs hPM hS hk9 => ?_)
  have hPC := zw_kept hPC (fun i j hi hj => (hdis j i hj hi).symm) hk9
  exact lv_icmp_eq (tgt := 1441) hx hb dL_law_730 (by decide) (fun _ => hend _ _ _ _ hR1 hPC hPM hS ls hl) (fun c9 => absurd rfl c9)
set_option maxHeartbeats 4000000 in
set_option maxRecDepth 100000 in
theorem law_case15 {p : Program} {l : Launch} {e : Env} {s : State} {m : MethodId} {below : List Frame} {meth : Method} {c : Code} {b L : Nat} {xs : Nat → Int32} {D : va_G} {aC aM adK adV : Nat → Nat} {cI cJ cC : ClassId} {R : ZS → ZS → Prop} (hstep : zStep15 R) (C0 : lw_At p s m meth c b L xs) (Z : zLaw s D aC aM adK adV cI cJ cC) {x3 : Int32} (hin : ∀ k : Nat, k < 8 → vp_in (x3 + nI k) L) {σ τ : ZS} (hR : R σ τ) (H : Heap) (locs : List Loc) (ls : Array Slot) (hPC : va_P D vwCl (zW (zcC aC cI cJ cC) 41 aC σ) H) (hPM : va_P D vwCl (zW (zcM aM cI cJ cC) 17 aM τ) H) (hS : va_S (fun q : Nat => s.heap.size ≤ q) s.heap H locs) (hl : lv_has ls 4 [(0, .ref b), (1, .ref (aC 0)), (2, .ref (aM 0)), (3, .int x3)]) (hend : ∀ (σ τ : ZS) (H : Heap) (locs : List Loc), R σ τ → va_P D vwCl (zW (zcC aC cI cJ cC) 41 aC σ) H → va_P D vwCl (zW (zcM aM cI cJ cC) 17 aM τ) H → va_S (fun q : Nat => s.heap.size ≤ q) s.heap H locs → ∀ ls : Array Slot, lv_has ls 4 [(0, .ref b), (1, .ref (aC 0)), (2, .ref (aM 0)), (3, .int x3)] → W p l e room_1 s m #[Value.ref b] below meth c H locs 58 1286 (lw_Z below #[Value.ref b] s) (F0 m 1441 ls [])) : W p l e room_1 s m #[Value.ref b] below meth c H locs 58 1286 (lw_Z below #[Value.ref b] s) (F0 m 735 ls []) := by
  obtain ⟨hx, hb, hr, hml, hown, hts0, hX, hbl, hlocks, hgv⟩ := C0
  obtain ⟨hK, hzC, hzM, hdis, hAC, hAM, hE⟩ := Z
  have hK2 : va_K D vwCl [(cI, .int), (cJ, .long)] s := hK.sub [0, 1] rfl
  have hts : ∀ w ∈ wsL_law, w.before #[Value.ref b] s = true := fun w h => hts0 w (wsL_law_in w h)
  have hown : s.vm.findClass RL = some m.cls := hown
  have hA : ∀ q : Nat, s.heap.size ≤ q → (fun q : Nat => s.heap.size ≤ q) q := fun _ h => h
  have hbA : ¬ (fun q : Nat => s.heap.size ≤ q) b := Nat.not_le.mpr hbl
  obtain ⟨r9, σ1, τ1, e1, e2, hR1⟩ := hstep σ τ (xs (x3 + (1 : Int32)).toNatClampNeg) (xs (x3 + (2 : Int32)).toNatClampNeg) hR
  refine lv_aload_n hx hb dL_law_735 rfl (lv_at hl 1 rfl) ?_
  refine lv_aload_n hx hb dL_law_736 rfl (lv_at hl 0 rfl) ?_
  refine lv_iload_n hx hb dL_law_737 rfl (lv_at hl 3 rfl) ?_
  refine lv_iconst (v := 1) hx hb dL_law_738 (by decide) ?_
  refine lv_iadd hx hb dL_law_739 ?_
  refine va_sld hx hb hX hbl hbA hS (hin 1 (by decide)) dL_law_740 ?_
  refine lv_aload_n hx hb dL_law_741 rfl (lv_at hl 0 rfl) ?_
  refine lv_iload_n hx hb dL_law_742 rfl (lv_at hl 3 rfl) ?_
  refine lv_iconst (v := 2) hx hb dL_law_743 (by decide) ?_
  refine lv_iadd hx hb dL_law_744 ?_
  refine va_sld hx hb hX hbl hbA hS (hin 2 (by decide)) dL_law_745 ?_
  refine zw_calli hAC hA hS (zw_run (As := [.int (xs (x3 + (1 : Int32)).toNatClampNeg), .int (xs (x3 + (2 : Int32)).toNatClampNeg)]) (rest := []) hx hb hml hown hts hK2 (zEC_good adK adV) hzC hAC hA hE hPC hS 0 (kX6_falsePairs (l := l) (D := D) (a := aC) (cI := cI) (cJ := cJ) (cC := cC) (adK := adK) (adV := adV) e1 _) (cwV 2 hts gL_law_X6_falsePairs rfl rfl rfl (by decide +kernel) ⟨Nat.le_of_ble_eq_true rfl, Nat.le_of_ble_eq_true rfl⟩) (by decide) (zcC_0 _ _ _ _ _ _) rfl rfl rfl hl.1 rfl (Nat.le_of_ble_eq_true rfl) ⟨Nat.le_of_ble_eq_true rfl, Nat.le_of_ble_eq_true rfl⟩ dL_law_746) (fun H locs hPC hS hk9 => ?_)
  have hPM := zw_kept hPM hdis hk9
  refine lv_aload_n hx hb dL_law_749 rfl (lv_at hl 2 rfl) ?_
  refine lv_aload_n hx hb dL_law_750 rfl (lv_at hl 0 rfl) ?_
  refine lv_iload_n hx hb dL_law_751 rfl (lv_at hl 3 rfl) ?_
  refine lv_iconst (v := 1) hx hb dL_law_752 (by decide) ?_
  refine lv_iadd hx hb dL_law_753 ?_
  refine va_sld hx hb hX hbl hbA hS (hin 1 (by decide)) dL_law_754 ?_
  refine lv_aload_n hx hb dL_law_755 rfl (lv_at hl 0 rfl) ?_
  refine lv_iload_n hx hb dL_law_756 rfl (lv_at hl 3 rfl) ?_
  refine lv_iconst (v := 2) hx hb dL_law_757 (by decide) ?_
  refine lv_iadd hx hb dL_law_758 ?_
  refine va_sld hx hb hX hbl hbA hS (hin 2 (by decide)) dL_law_759 ?_
  refine zw_calli hAM hA hS (zw_run (As := [.int (xs (x3 + (1 : Int32)).toNatClampNeg), .int (xs (x3 + (2 : Int32)).toNatClampNeg)]) (rest := [.int r9]) hx hb hml hown hts hK zEM_good hzM hAM hA trivial hPM hS 0 (kX7_falsePairs (l := l) (D := D) (a := aM) (cI := cI) (cJ := cJ) (cC := cC) e2 _) (cwV 2 hts gL_law_X7_falsePairs rfl rfl rfl (by decide +kernel) ⟨Nat.le_of_ble_eq_true rfl, Nat.le_of_ble_eq_true rfl⟩) (by decide) (zcM_0 _ _ _ _ _ _) rfl rfl rfl hl.1 rfl (Nat.le_of_ble_eq_true rfl) ⟨Nat.le_of_ble_eq_true rfl, Nat.le_of_ble_eq_true rfl⟩ dL_law_760) (fun H locs hPM hS hk9 => ?_)
  have hPC := zw_kept hPC (fun i j hi hj => (hdis j i hj hi).symm) hk9
  exact lv_icmp_eq (tgt := 1441) hx hb dL_law_763 (by decide) (fun _ => hend _ _ _ _ hR1 hPC hPM hS ls hl) (fun c9 => absurd rfl c9)
set_option maxHeartbeats 4000000 in
set_option maxRecDepth 100000 in
theorem law_case16 {p : Program} {l : Launch} {e : Env} {s : State} {m : MethodId} {below : List Frame} {meth : Method} {c : Code} {b L : Nat} {xs : Nat → Int32} {D : va_G} {aC aM adK adV : Nat → Nat} {cI cJ cC : ClassId} {R : ZS → ZS → Prop} (hstep : zStep16 R) (C0 : lw_At p s m meth c b L xs) (Z : zLaw s D aC aM adK adV cI cJ cC) {x3 : Int32} (hin : ∀ k : Nat, k < 8 → vp_in (x3 + nI k) L) {σ τ : ZS} (hR : R σ τ) (H : Heap) (locs : List Loc) (ls : Array Slot) (hPC : va_P D vwCl (zW (zcC aC cI cJ cC) 41 aC σ) H) (hPM : va_P D vwCl (zW (zcM aM cI cJ cC) 17 aM τ) H) (hS : va_S (fun q : Nat => s.heap.size ≤ q) s.heap H locs) (hl : lv_has ls 4 [(0, .ref b), (1, .ref (aC 0)), (2, .ref (aM 0)), (3, .int x3)]) (hend : ∀ (σ τ : ZS) (H : Heap) (locs : List Loc), R σ τ → va_P D vwCl (zW (zcC aC cI cJ cC) 41 aC σ) H → va_P D vwCl (zW (zcM aM cI cJ cC) 17 aM τ) H → va_S (fun q : Nat => s.heap.size ≤ q) s.heap H locs → ∀ ls : Array Slot, lv_has ls 4 [(0, .ref b), (1, .ref (aC 0)), (2, .ref (aM 0)), (3, .int x3)] → W p l e room_1 s m #[Value.ref b] below meth c H locs 58 1286 (lw_Z below #[Value.ref b] s) (F0 m 1441 ls [])) : W p l e room_1 s m #[Value.ref b] below meth c H locs 58 1286 (lw_Z below #[Value.ref b] s) (F0 m 768 ls []) := by
  obtain ⟨hx, hb, hr, hml, hown, hts0, hX, hbl, hlocks, hgv⟩ := C0
  obtain ⟨hK, hzC, hzM, hdis, hAC, hAM, hE⟩ := Z
  have hK2 : va_K D vwCl [(cI, .int), (cJ, .long)] s := hK.sub [0, 1] rfl
  have hts : ∀ w ∈ wsL_law, w.before #[Value.ref b] s = true := fun w h => hts0 w (wsL_law_in w h)
  have hown : s.vm.findClass RL = some m.cls := hown
  have hA : ∀ q : Nat, s.heap.size ≤ q → (fun q : Nat => s.heap.size ≤ q) q := fun _ h => h
  have hbA : ¬ (fun q : Nat => s.heap.size ≤ q) b := Nat.not_le.mpr hbl
  obtain ⟨r9, σ1, τ1, e1, e2, hR1⟩ := hstep σ τ (xs (x3 + (1 : Int32)).toNatClampNeg) (xs (x3 + (2 : Int32)).toNatClampNeg) hR
  refine lv_aload_n hx hb dL_law_768 rfl (lv_at hl 1 rfl) ?_
  refine lv_aload_n hx hb dL_law_769 rfl (lv_at hl 0 rfl) ?_
  refine lv_iload_n hx hb dL_law_770 rfl (lv_at hl 3 rfl) ?_
  refine lv_iconst (v := 1) hx hb dL_law_771 (by decide) ?_
  refine lv_iadd hx hb dL_law_772 ?_
  refine va_sld hx hb hX hbl hbA hS (hin 1 (by decide)) dL_law_773 ?_
  refine lv_aload_n hx hb dL_law_774 rfl (lv_at hl 0 rfl) ?_
  refine lv_iload_n hx hb dL_law_775 rfl (lv_at hl 3 rfl) ?_
  refine lv_iconst (v := 2) hx hb dL_law_776 (by decide) ?_
  refine lv_iadd hx hb dL_law_777 ?_
  refine va_sld hx hb hX hbl hbA hS (hin 2 (by decide)) dL_law_778 ?_
  refine zw_calli hAC hA hS (zw_run (As := [.int (xs (x3 + (1 : Int32)).toNatClampNeg), .int (xs (x3 + (2 : Int32)).toNatClampNeg)]) (rest := []) hx hb hml hown hts hK2 (zEC_good adK adV) hzC hAC hA hE hPC hS 0 (kX6_ranked (l := l) (D := D) (a := aC) (cI := cI) (cJ := cJ) (cC := cC) (adK := adK) (adV := adV) e1 _) (cwV 2 hts gL_law_X6_ranked rfl rfl rfl (by decide +kernel) ⟨Nat.le_of_ble_eq_true rfl, Nat.le_of_ble_eq_true rfl⟩) (by decide) (zcC_0 _ _ _ _ _ _) rfl rfl rfl hl.1 rfl (Nat.le_of_ble_eq_true rfl) ⟨Nat.le_of_ble_eq_true rfl, Nat.le_of_ble_eq_true rfl⟩ dL_law_779) (fun H locs hPC hS hk9 => ?_)
  have hPM := zw_kept hPM hdis hk9
  refine lv_aload_n hx hb dL_law_782 rfl (lv_at hl 2 rfl) ?_
  refine lv_aload_n hx hb dL_law_783 rfl (lv_at hl 0 rfl) ?_
  refine lv_iload_n hx hb dL_law_784 rfl (lv_at hl 3 rfl) ?_
  refine lv_iconst (v := 1) hx hb dL_law_785 (by decide) ?_
  refine lv_iadd hx hb dL_law_786 ?_
  refine va_sld hx hb hX hbl hbA hS (hin 1 (by decide)) dL_law_787 ?_
  refine lv_aload_n hx hb dL_law_788 rfl (lv_at hl 0 rfl) ?_
  refine lv_iload_n hx hb dL_law_789 rfl (lv_at hl 3 rfl) ?_
  refine lv_iconst (v := 2) hx hb dL_law_790 (by decide) ?_
  refine lv_iadd hx hb dL_law_791 ?_
  refine va_sld hx hb hX hbl hbA hS (hin 2 (by decide)) dL_law_792 ?_
  refine zw_calli hAM hA hS (zw_run (As := [.int (xs (x3 + (1 : Int32)).toNatClampNeg), .int (xs (x3 + (2 : Int32)).toNatClampNeg)]) (rest := [.int r9]) hx hb hml hown hts hK zEM_good hzM hAM hA trivial hPM hS 0 (kX7_ranked (l := l) (D := D) (a := aM) (cI := cI) (cJ := cJ) (cC := cC) e2 _) (cwV 2 hts gL_law_X7_ranked rfl rfl rfl (by decide +kernel) ⟨Nat.le_of_ble_eq_true rfl, Nat.le_of_ble_eq_true rfl⟩) (by decide) (zcM_0 _ _ _ _ _ _) rfl rfl rfl hl.1 rfl (Nat.le_of_ble_eq_true rfl) ⟨Nat.le_of_ble_eq_true rfl, Nat.le_of_ble_eq_true rfl⟩ dL_law_793) (fun H locs hPM hS hk9 => ?_)
  have hPC := zw_kept hPC (fun i j hi hj => (hdis j i hj hi).symm) hk9
  exact lv_icmp_eq (tgt := 1441) hx hb dL_law_796 (by decide) (fun _ => hend _ _ _ _ hR1 hPC hPM hS ls hl) (fun c9 => absurd rfl c9)
set_option maxHeartbeats 4000000 in
set_option maxRecDepth 100000 in
theorem law_case17 {p : Program} {l : Launch} {e : Env} {s : State} {m : MethodId} {below : List Frame} {meth : Method} {c : Code} {b L : Nat} {xs : Nat → Int32} {D : va_G} {aC aM adK adV : Nat → Nat} {cI cJ cC : ClassId} {R : ZS → ZS → Prop} (hstep : zStep17 R) (C0 : lw_At p s m meth c b L xs) (Z : zLaw s D aC aM adK adV cI cJ cC) {x3 : Int32} (hin : ∀ k : Nat, k < 8 → vp_in (x3 + nI k) L) {σ τ : ZS} (hR : R σ τ) (H : Heap) (locs : List Loc) (ls : Array Slot) (hPC : va_P D vwCl (zW (zcC aC cI cJ cC) 41 aC σ) H) (hPM : va_P D vwCl (zW (zcM aM cI cJ cC) 17 aM τ) H) (hS : va_S (fun q : Nat => s.heap.size ≤ q) s.heap H locs) (hl : lv_has ls 4 [(0, .ref b), (1, .ref (aC 0)), (2, .ref (aM 0)), (3, .int x3)]) (hend : ∀ (σ τ : ZS) (H : Heap) (locs : List Loc), R σ τ → va_P D vwCl (zW (zcC aC cI cJ cC) 41 aC σ) H → va_P D vwCl (zW (zcM aM cI cJ cC) 17 aM τ) H → va_S (fun q : Nat => s.heap.size ≤ q) s.heap H locs → ∀ ls : Array Slot, lv_has ls 4 [(0, .ref b), (1, .ref (aC 0)), (2, .ref (aM 0)), (3, .int x3)] → W p l e room_1 s m #[Value.ref b] below meth c H locs 58 1286 (lw_Z below #[Value.ref b] s) (F0 m 1441 ls [])) : W p l e room_1 s m #[Value.ref b] below meth c H locs 58 1286 (lw_Z below #[Value.ref b] s) (F0 m 801 ls []) := by
  obtain ⟨hx, hb, hr, hml, hown, hts0, hX, hbl, hlocks, hgv⟩ := C0
  obtain ⟨hK, hzC, hzM, hdis, hAC, hAM, hE⟩ := Z
  have hK2 : va_K D vwCl [(cI, .int), (cJ, .long)] s := hK.sub [0, 1] rfl
  have hts : ∀ w ∈ wsL_law, w.before #[Value.ref b] s = true := fun w h => hts0 w (wsL_law_in w h)
  have hown : s.vm.findClass RL = some m.cls := hown
  have hA : ∀ q : Nat, s.heap.size ≤ q → (fun q : Nat => s.heap.size ≤ q) q := fun _ h => h
  have hbA : ¬ (fun q : Nat => s.heap.size ≤ q) b := Nat.not_le.mpr hbl
  obtain ⟨r9, σ1, τ1, e1, e2, hR1⟩ := hstep σ τ (xs (x3 + (1 : Int32)).toNatClampNeg) (xs (x3 + (2 : Int32)).toNatClampNeg) (xs (x3 + (3 : Int32)).toNatClampNeg) hR
  refine lv_aload_n hx hb dL_law_801 rfl (lv_at hl 1 rfl) ?_
  refine lv_aload_n hx hb dL_law_802 rfl (lv_at hl 0 rfl) ?_
  refine lv_iload_n hx hb dL_law_803 rfl (lv_at hl 3 rfl) ?_
  refine lv_iconst (v := 1) hx hb dL_law_804 (by decide) ?_
  refine lv_iadd hx hb dL_law_805 ?_
  refine va_sld hx hb hX hbl hbA hS (hin 1 (by decide)) dL_law_806 ?_
  refine lv_aload_n hx hb dL_law_807 rfl (lv_at hl 0 rfl) ?_
  refine lv_iload_n hx hb dL_law_808 rfl (lv_at hl 3 rfl) ?_
  refine lv_iconst (v := 2) hx hb dL_law_809 (by decide) ?_
  refine lv_iadd hx hb dL_law_810 ?_
  refine va_sld hx hb hX hbl hbA hS (hin 2 (by decide)) dL_law_811 ?_
  refine lv_aload_n hx hb dL_law_812 rfl (lv_at hl 0 rfl) ?_
  refine lv_iload_n hx hb dL_law_813 rfl (lv_at hl 3 rfl) ?_
  refine lv_iconst (v := 3) hx hb dL_law_814 (by decide) ?_
  refine lv_iadd hx hb dL_law_815 ?_
  refine va_sld hx hb hX hbl hbA hS (hin 3 (by decide)) dL_law_816 ?_
  refine zw_calli hAC hA hS (zw_run (As := [.int (xs (x3 + (1 : Int32)).toNatClampNeg), .int (xs (x3 + (2 : Int32)).toNatClampNeg), .int (xs (x3 + (3 : Int32)).toNatClampNeg)]) (rest := []) hx hb hml hown hts hK2 (zEC_good adK adV) hzC hAC hA hE hPC hS 0 (kX6_wish (l := l) (D := D) (a := aC) (cI := cI) (cJ := cJ) (cC := cC) (adK := adK) (adV := adV) e1 _) (cwV 3 hts gL_law_X6_wish rfl rfl rfl (by decide +kernel) ⟨Nat.le_of_ble_eq_true rfl, Nat.le_of_ble_eq_true rfl⟩) (by decide) (zcC_0 _ _ _ _ _ _) rfl rfl rfl hl.1 rfl (Nat.le_of_ble_eq_true rfl) ⟨Nat.le_of_ble_eq_true rfl, Nat.le_of_ble_eq_true rfl⟩ dL_law_817) (fun H locs hPC hS hk9 => ?_)
  have hPM := zw_kept hPM hdis hk9
  refine lv_aload_n hx hb dL_law_820 rfl (lv_at hl 2 rfl) ?_
  refine lv_aload_n hx hb dL_law_821 rfl (lv_at hl 0 rfl) ?_
  refine lv_iload_n hx hb dL_law_822 rfl (lv_at hl 3 rfl) ?_
  refine lv_iconst (v := 1) hx hb dL_law_823 (by decide) ?_
  refine lv_iadd hx hb dL_law_824 ?_
  refine va_sld hx hb hX hbl hbA hS (hin 1 (by decide)) dL_law_825 ?_
  refine lv_aload_n hx hb dL_law_826 rfl (lv_at hl 0 rfl) ?_
  refine lv_iload_n hx hb dL_law_827 rfl (lv_at hl 3 rfl) ?_
  refine lv_iconst (v := 2) hx hb dL_law_828 (by decide) ?_
  refine lv_iadd hx hb dL_law_829 ?_
  refine va_sld hx hb hX hbl hbA hS (hin 2 (by decide)) dL_law_830 ?_
  refine lv_aload_n hx hb dL_law_831 rfl (lv_at hl 0 rfl) ?_
  refine lv_iload_n hx hb dL_law_832 rfl (lv_at hl 3 rfl) ?_
  refine lv_iconst (v := 3) hx hb dL_law_833 (by decide) ?_
  refine lv_iadd hx hb dL_law_834 ?_
  refine va_sld hx hb hX hbl hbA hS (hin 3 (by decide)) dL_law_835 ?_
  refine zw_calli hAM hA hS (zw_run (As := [.int (xs (x3 + (1 : Int32)).toNatClampNeg), .int (xs (x3 + (2 : Int32)).toNatClampNeg), .int (xs (x3 + (3 : Int32)).toNatClampNeg)]) (rest := [.int r9]) hx hb hml hown hts hK zEM_good hzM hAM hA trivial hPM hS 0 (kX7_wish (l := l) (D := D) (a := aM) (cI := cI) (cJ := cJ) (cC := cC) e2 _) (cwV 3 hts gL_law_X7_wish rfl rfl rfl (by decide +kernel) ⟨Nat.le_of_ble_eq_true rfl, Nat.le_of_ble_eq_true rfl⟩) (by decide) (zcM_0 _ _ _ _ _ _) rfl rfl rfl hl.1 rfl (Nat.le_of_ble_eq_true rfl) ⟨Nat.le_of_ble_eq_true rfl, Nat.le_of_ble_eq_true rfl⟩ dL_law_836) (fun H locs hPM hS hk9 => ?_)
  have hPC := zw_kept hPC (fun i j hi hj => (hdis j i hj hi).symm) hk9
  exact lv_icmp_eq (tgt := 1441) hx hb dL_law_839 (by decide) (fun _ => hend _ _ _ _ hR1 hPC hPM hS ls hl) (fun c9 => absurd rfl c9)
set_option maxHeartbeats 4000000 in
set_option maxRecDepth 100000 in
theorem law_case18 {p : Program} {l : Launch} {e : Env} {s : State} {m : MethodId} {below : List Frame} {meth : Method} {c : Code} {b L : Nat} {xs : Nat → Int32} {D : va_G} {aC aM adK adV : Nat → Nat} {cI cJ cC : ClassId} {R : ZS → ZS → Prop} (hstep : zStep18 R) (C0 : lw_At p s m meth c b L xs) (Z : zLaw s D aC aM adK adV cI cJ cC) {x3 : Int32} (hin : ∀ k : Nat, k < 8 → vp_in (x3 + nI k) L) {σ τ : ZS} (hR : R σ τ) (H : Heap) (locs : List Loc) (ls : Array Slot) (hPC : va_P D vwCl (zW (zcC aC cI cJ cC) 41 aC σ) H) (hPM : va_P D vwCl (zW (zcM aM cI cJ cC) 17 aM τ) H) (hS : va_S (fun q : Nat => s.heap.size ≤ q) s.heap H locs) (hl : lv_has ls 4 [(0, .ref b), (1, .ref (aC 0)), (2, .ref (aM 0)), (3, .int x3)]) (hend : ∀ (σ τ : ZS) (H : Heap) (locs : List Loc), R σ τ → va_P D vwCl (zW (zcC aC cI cJ cC) 41 aC σ) H → va_P D vwCl (zW (zcM aM cI cJ cC) 17 aM τ) H → va_S (fun q : Nat => s.heap.size ≤ q) s.heap H locs → ∀ ls : Array Slot, lv_has ls 4 [(0, .ref b), (1, .ref (aC 0)), (2, .ref (aM 0)), (3, .int x3)] → W p l e room_1 s m #[Value.ref b] below meth c H locs 58 1286 (lw_Z below #[Value.ref b] s) (F0 m 1441 ls [])) : W p l e room_1 s m #[Value.ref b] below meth c H locs 58 1286 (lw_Z below #[Value.ref b] s) (F0 m 844 ls []) := by
  obtain ⟨hx, hb, hr, hml, hown, hts0, hX, hbl, hlocks, hgv⟩ := C0
  obtain ⟨hK, hzC, hzM, hdis, hAC, hAM, hE⟩ := Z
  have hK2 : va_K D vwCl [(cI, .int), (cJ, .long)] s := hK.sub [0, 1] rfl
  have hts : ∀ w ∈ wsL_law, w.before #[Value.ref b] s = true := fun w h => hts0 w (wsL_law_in w h)
  have hown : s.vm.findClass RL = some m.cls := hown
  have hA : ∀ q : Nat, s.heap.size ≤ q → (fun q : Nat => s.heap.size ≤ q) q := fun _ h => h
  have hbA : ¬ (fun q : Nat => s.heap.size ≤ q) b := Nat.not_le.mpr hbl
  obtain ⟨r9, σ1, τ1, e1, e2, hR1⟩ := hstep σ τ (xs (x3 + (1 : Int32)).toNatClampNeg) (xs (x3 + (2 : Int32)).toNatClampNeg) hR
  refine lv_aload_n hx hb dL_law_844 rfl (lv_at hl 1 rfl) ?_
  refine lv_aload_n hx hb dL_law_845 rfl (lv_at hl 0 rfl) ?_
  refine lv_iload_n hx hb dL_law_846 rfl (lv_at hl 3 rfl) ?_
  refine lv_iconst (v := 1) hx hb dL_law_847 (by decide) ?_
  refine lv_iadd hx hb dL_law_848 ?_
  refine va_sld hx hb hX hbl hbA hS (hin 1 (by decide)) dL_law_849 ?_
  refine lv_aload_n hx hb dL_law_850 rfl (lv_at hl 0 rfl) ?_
  refine lv_iload_n hx hb dL_law_851 rfl (lv_at hl 3 rfl) ?_
  refine lv_iconst (v := 2) hx hb dL_law_852 (by decide) ?_
  refine lv_iadd hx hb dL_law_853 ?_
  refine va_sld hx hb hX hbl hbA hS (hin 2 (by decide)) dL_law_854 ?_
  refine zw_calli hAC hA hS (zw_run (As := [.int (xs (x3 + (1 : Int32)).toNatClampNeg), .int (xs (x3 + (2 : Int32)).toNatClampNeg)]) (rest := []) hx hb hml hown hts hK2 (zEC_good adK adV) hzC hAC hA hE hPC hS 0 (kX6_fewest (l := l) (D := D) (a := aC) (cI := cI) (cJ := cJ) (cC := cC) (adK := adK) (adV := adV) e1 _) (cwV 2 hts gL_law_X6_fewest rfl rfl rfl (by decide +kernel) ⟨Nat.le_of_ble_eq_true rfl, Nat.le_of_ble_eq_true rfl⟩) (by decide) (zcC_0 _ _ _ _ _ _) rfl rfl rfl hl.1 rfl (Nat.le_of_ble_eq_true rfl) ⟨Nat.le_of_ble_eq_true rfl, Nat.le_of_ble_eq_true rfl⟩ dL_law_855) (fun H locs hPC hS hk9 => ?_)
  have hPM := zw_kept hPM hdis hk9
  refine lv_aload_n hx hb dL_law_858 rfl (lv_at hl 2 rfl) ?_
  refine lv_aload_n hx hb dL_law_859 rfl (lv_at hl 0 rfl) ?_
  refine lv_iload_n hx hb dL_law_860 rfl (lv_at hl 3 rfl) ?_
  refine lv_iconst (v := 1) hx hb dL_law_861 (by decide) ?_
  refine lv_iadd hx hb dL_law_862 ?_
  refine va_sld hx hb hX hbl hbA hS (hin 1 (by decide)) dL_law_863 ?_
  refine lv_aload_n hx hb dL_law_864 rfl (lv_at hl 0 rfl) ?_
  refine lv_iload_n hx hb dL_law_865 rfl (lv_at hl 3 rfl) ?_
  refine lv_iconst (v := 2) hx hb dL_law_866 (by decide) ?_
  refine lv_iadd hx hb dL_law_867 ?_
  refine va_sld hx hb hX hbl hbA hS (hin 2 (by decide)) dL_law_868 ?_
  refine zw_calli hAM hA hS (zw_run (As := [.int (xs (x3 + (1 : Int32)).toNatClampNeg), .int (xs (x3 + (2 : Int32)).toNatClampNeg)]) (rest := [.int r9]) hx hb hml hown hts hK zEM_good hzM hAM hA trivial hPM hS 0 (kX7_fewest (l := l) (D := D) (a := aM) (cI := cI) (cJ := cJ) (cC := cC) e2 _) (cwV 2 hts gL_law_X7_fewest rfl rfl rfl (by decide +kernel) ⟨Nat.le_of_ble_eq_true rfl, Nat.le_of_ble_eq_true rfl⟩) (by decide) (zcM_0 _ _ _ _ _ _) rfl rfl rfl hl.1 rfl (Nat.le_of_ble_eq_true rfl) ⟨Nat.le_of_ble_eq_true rfl, Nat.le_of_ble_eq_true rfl⟩ dL_law_869) (fun H locs hPM hS hk9 => ?_)
  have hPC := zw_kept hPC (fun i j hi hj => (hdis j i hj hi).symm) hk9
  exact lv_icmp_eq (tgt := 1441) hx hb dL_law_872 (by decide) (fun _ => hend _ _ _ _ hR1 hPC hPM hS ls hl) (fun c9 => absurd rfl c9)
set_option maxHeartbeats 4000000 in
set_option maxRecDepth 100000 in
theorem law_case19 {p : Program} {l : Launch} {e : Env} {s : State} {m : MethodId} {below : List Frame} {meth : Method} {c : Code} {b L : Nat} {xs : Nat → Int32} {D : va_G} {aC aM adK adV : Nat → Nat} {cI cJ cC : ClassId} {R : ZS → ZS → Prop} (hstep : zStep19 R) (C0 : lw_At p s m meth c b L xs) (Z : zLaw s D aC aM adK adV cI cJ cC) {x3 : Int32} (hin : ∀ k : Nat, k < 8 → vp_in (x3 + nI k) L) {σ τ : ZS} (hR : R σ τ) (H : Heap) (locs : List Loc) (ls : Array Slot) (hPC : va_P D vwCl (zW (zcC aC cI cJ cC) 41 aC σ) H) (hPM : va_P D vwCl (zW (zcM aM cI cJ cC) 17 aM τ) H) (hS : va_S (fun q : Nat => s.heap.size ≤ q) s.heap H locs) (hl : lv_has ls 4 [(0, .ref b), (1, .ref (aC 0)), (2, .ref (aM 0)), (3, .int x3)]) (hend : ∀ (σ τ : ZS) (H : Heap) (locs : List Loc), R σ τ → va_P D vwCl (zW (zcC aC cI cJ cC) 41 aC σ) H → va_P D vwCl (zW (zcM aM cI cJ cC) 17 aM τ) H → va_S (fun q : Nat => s.heap.size ≤ q) s.heap H locs → ∀ ls : Array Slot, lv_has ls 4 [(0, .ref b), (1, .ref (aC 0)), (2, .ref (aM 0)), (3, .int x3)] → W p l e room_1 s m #[Value.ref b] below meth c H locs 58 1286 (lw_Z below #[Value.ref b] s) (F0 m 1441 ls [])) : W p l e room_1 s m #[Value.ref b] below meth c H locs 58 1286 (lw_Z below #[Value.ref b] s) (F0 m 877 ls []) := by
  obtain ⟨hx, hb, hr, hml, hown, hts0, hX, hbl, hlocks, hgv⟩ := C0
  obtain ⟨hK, hzC, hzM, hdis, hAC, hAM, hE⟩ := Z
  have hK2 : va_K D vwCl [(cI, .int), (cJ, .long)] s := hK.sub [0, 1] rfl
  have hts : ∀ w ∈ wsL_law, w.before #[Value.ref b] s = true := fun w h => hts0 w (wsL_law_in w h)
  have hown : s.vm.findClass RL = some m.cls := hown
  have hA : ∀ q : Nat, s.heap.size ≤ q → (fun q : Nat => s.heap.size ≤ q) q := fun _ h => h
  have hbA : ¬ (fun q : Nat => s.heap.size ≤ q) b := Nat.not_le.mpr hbl
  obtain ⟨r9, σ1, τ1, e1, e2, hR1⟩ := hstep σ τ (xs (x3 + (1 : Int32)).toNatClampNeg) (xs (x3 + (2 : Int32)).toNatClampNeg) hR
  refine lv_aload_n hx hb dL_law_877 rfl (lv_at hl 1 rfl) ?_
  refine lv_aload_n hx hb dL_law_878 rfl (lv_at hl 0 rfl) ?_
  refine lv_iload_n hx hb dL_law_879 rfl (lv_at hl 3 rfl) ?_
  refine lv_iconst (v := 1) hx hb dL_law_880 (by decide) ?_
  refine lv_iadd hx hb dL_law_881 ?_
  refine va_sld hx hb hX hbl hbA hS (hin 1 (by decide)) dL_law_882 ?_
  refine lv_aload_n hx hb dL_law_883 rfl (lv_at hl 0 rfl) ?_
  refine lv_iload_n hx hb dL_law_884 rfl (lv_at hl 3 rfl) ?_
  refine lv_iconst (v := 2) hx hb dL_law_885 (by decide) ?_
  refine lv_iadd hx hb dL_law_886 ?_
  refine va_sld hx hb hX hbl hbA hS (hin 2 (by decide)) dL_law_887 ?_
  refine zw_calli hAC hA hS (zw_run (As := [.int (xs (x3 + (1 : Int32)).toNatClampNeg), .int (xs (x3 + (2 : Int32)).toNatClampNeg)]) (rest := []) hx hb hml hown hts hK2 (zEC_good adK adV) hzC hAC hA hE hPC hS 0 (kX6_nearest (l := l) (D := D) (a := aC) (cI := cI) (cJ := cJ) (cC := cC) (adK := adK) (adV := adV) e1 _) (cwV 2 hts gL_law_X6_nearest rfl rfl rfl (by decide +kernel) ⟨Nat.le_of_ble_eq_true rfl, Nat.le_of_ble_eq_true rfl⟩) (by decide) (zcC_0 _ _ _ _ _ _) rfl rfl rfl hl.1 rfl (Nat.le_of_ble_eq_true rfl) ⟨Nat.le_of_ble_eq_true rfl, Nat.le_of_ble_eq_true rfl⟩ dL_law_888) (fun H locs hPC hS hk9 => ?_)
  have hPM := zw_kept hPM hdis hk9
  refine lv_aload_n hx hb dL_law_891 rfl (lv_at hl 2 rfl) ?_
  refine lv_aload_n hx hb dL_law_892 rfl (lv_at hl 0 rfl) ?_
  refine lv_iload_n hx hb dL_law_893 rfl (lv_at hl 3 rfl) ?_
  refine lv_iconst (v := 1) hx hb dL_law_894 (by decide) ?_
  refine lv_iadd hx hb dL_law_895 ?_
  refine va_sld hx hb hX hbl hbA hS (hin 1 (by decide)) dL_law_896 ?_
  refine lv_aload_n hx hb dL_law_897 rfl (lv_at hl 0 rfl) ?_
  refine lv_iload_n hx hb dL_law_898 rfl (lv_at hl 3 rfl) ?_
  refine lv_iconst (v := 2) hx hb dL_law_899 (by decide) ?_
  refine lv_iadd hx hb dL_law_900 ?_
  refine va_sld hx hb hX hbl hbA hS (hin 2 (by decide)) dL_law_901 ?_
  refine zw_calli hAM hA hS (zw_run (As := [.int (xs (x3 + (1 : Int32)).toNatClampNeg), .int (xs (x3 + (2 : Int32)).toNatClampNeg)]) (rest := [.int r9]) hx hb hml hown hts hK zEM_good hzM hAM hA trivial hPM hS 0 (kX7_nearest (l := l) (D := D) (a := aM) (cI := cI) (cJ := cJ) (cC := cC) e2 _) (cwV 2 hts gL_law_X7_nearest rfl rfl rfl (by decide +kernel) ⟨Nat.le_of_ble_eq_true rfl, Nat.le_of_ble_eq_true rfl⟩) (by decide) (zcM_0 _ _ _ _ _ _) rfl rfl rfl hl.1 rfl (Nat.le_of_ble_eq_true rfl) ⟨Nat.le_of_ble_eq_true rfl, Nat.le_of_ble_eq_true rfl⟩ dL_law_902) (fun H locs hPM hS hk9 => ?_)
  have hPC := zw_kept hPC (fun i j hi hj => (hdis j i hj hi).symm) hk9
  exact lv_icmp_eq (tgt := 1441) hx hb dL_law_905 (by decide) (fun _ => hend _ _ _ _ hR1 hPC hPM hS ls hl) (fun c9 => absurd rfl c9)
set_option maxHeartbeats 4000000 in
set_option maxRecDepth 100000 in
theorem law_case20 {p : Program} {l : Launch} {e : Env} {s : State} {m : MethodId} {below : List Frame} {meth : Method} {c : Code} {b L : Nat} {xs : Nat → Int32} {D : va_G} {aC aM adK adV : Nat → Nat} {cI cJ cC : ClassId} {R : ZS → ZS → Prop} (hstep : zStep20 R) (C0 : lw_At p s m meth c b L xs) (Z : zLaw s D aC aM adK adV cI cJ cC) {x3 : Int32} (hin : ∀ k : Nat, k < 8 → vp_in (x3 + nI k) L) {σ τ : ZS} (hR : R σ τ) (H : Heap) (locs : List Loc) (ls : Array Slot) (hPC : va_P D vwCl (zW (zcC aC cI cJ cC) 41 aC σ) H) (hPM : va_P D vwCl (zW (zcM aM cI cJ cC) 17 aM τ) H) (hS : va_S (fun q : Nat => s.heap.size ≤ q) s.heap H locs) (hl : lv_has ls 4 [(0, .ref b), (1, .ref (aC 0)), (2, .ref (aM 0)), (3, .int x3)]) (hend : ∀ (σ τ : ZS) (H : Heap) (locs : List Loc), R σ τ → va_P D vwCl (zW (zcC aC cI cJ cC) 41 aC σ) H → va_P D vwCl (zW (zcM aM cI cJ cC) 17 aM τ) H → va_S (fun q : Nat => s.heap.size ≤ q) s.heap H locs → ∀ ls : Array Slot, lv_has ls 4 [(0, .ref b), (1, .ref (aC 0)), (2, .ref (aM 0)), (3, .int x3)] → W p l e room_1 s m #[Value.ref b] below meth c H locs 58 1286 (lw_Z below #[Value.ref b] s) (F0 m 1441 ls [])) : W p l e room_1 s m #[Value.ref b] below meth c H locs 58 1286 (lw_Z below #[Value.ref b] s) (F0 m 910 ls []) := by
  obtain ⟨hx, hb, hr, hml, hown, hts0, hX, hbl, hlocks, hgv⟩ := C0
  obtain ⟨hK, hzC, hzM, hdis, hAC, hAM, hE⟩ := Z
  have hK2 : va_K D vwCl [(cI, .int), (cJ, .long)] s := hK.sub [0, 1] rfl
  have hts : ∀ w ∈ wsL_law, w.before #[Value.ref b] s = true := fun w h => hts0 w (wsL_law_in w h)
  have hown : s.vm.findClass RL = some m.cls := hown
  have hA : ∀ q : Nat, s.heap.size ≤ q → (fun q : Nat => s.heap.size ≤ q) q := fun _ h => h
  have hbA : ¬ (fun q : Nat => s.heap.size ≤ q) b := Nat.not_le.mpr hbl
  obtain ⟨r9, σ1, τ1, e1, e2, hR1⟩ := hstep σ τ (xs (x3 + (1 : Int32)).toNatClampNeg) (xs (x3 + (2 : Int32)).toNatClampNeg) (xs (x3 + (3 : Int32)).toNatClampNeg) hR
  refine lv_aload_n hx hb dL_law_910 rfl (lv_at hl 1 rfl) ?_
  refine lv_aload_n hx hb dL_law_911 rfl (lv_at hl 0 rfl) ?_
  refine lv_iload_n hx hb dL_law_912 rfl (lv_at hl 3 rfl) ?_
  refine lv_iconst (v := 1) hx hb dL_law_913 (by decide) ?_
  refine lv_iadd hx hb dL_law_914 ?_
  refine va_sld hx hb hX hbl hbA hS (hin 1 (by decide)) dL_law_915 ?_
  refine lv_aload_n hx hb dL_law_916 rfl (lv_at hl 0 rfl) ?_
  refine lv_iload_n hx hb dL_law_917 rfl (lv_at hl 3 rfl) ?_
  refine lv_iconst (v := 2) hx hb dL_law_918 (by decide) ?_
  refine lv_iadd hx hb dL_law_919 ?_
  refine va_sld hx hb hX hbl hbA hS (hin 2 (by decide)) dL_law_920 ?_
  refine lv_aload_n hx hb dL_law_921 rfl (lv_at hl 0 rfl) ?_
  refine lv_iload_n hx hb dL_law_922 rfl (lv_at hl 3 rfl) ?_
  refine lv_iconst (v := 3) hx hb dL_law_923 (by decide) ?_
  refine lv_iadd hx hb dL_law_924 ?_
  refine va_sld hx hb hX hbl hbA hS (hin 3 (by decide)) dL_law_925 ?_
  refine zw_calli hAC hA hS (zw_run (As := [.int (xs (x3 + (1 : Int32)).toNatClampNeg), .int (xs (x3 + (2 : Int32)).toNatClampNeg), .int (xs (x3 + (3 : Int32)).toNatClampNeg)]) (rest := []) hx hb hml hown hts hK2 (zEC_good adK adV) hzC hAC hA hE hPC hS 0 (kX6_without (l := l) (D := D) (a := aC) (cI := cI) (cJ := cJ) (cC := cC) (adK := adK) (adV := adV) e1 _) (cwV 3 hts gL_law_X6_without rfl rfl rfl (by decide +kernel) ⟨Nat.le_of_ble_eq_true rfl, Nat.le_of_ble_eq_true rfl⟩) (by decide) (zcC_0 _ _ _ _ _ _) rfl rfl rfl hl.1 rfl (Nat.le_of_ble_eq_true rfl) ⟨Nat.le_of_ble_eq_true rfl, Nat.le_of_ble_eq_true rfl⟩ dL_law_926) (fun H locs hPC hS hk9 => ?_)
  have hPM := zw_kept hPM hdis hk9
  refine lv_aload_n hx hb dL_law_929 rfl (lv_at hl 2 rfl) ?_
  refine lv_aload_n hx hb dL_law_930 rfl (lv_at hl 0 rfl) ?_
  refine lv_iload_n hx hb dL_law_931 rfl (lv_at hl 3 rfl) ?_
  refine lv_iconst (v := 1) hx hb dL_law_932 (by decide) ?_
  refine lv_iadd hx hb dL_law_933 ?_
  refine va_sld hx hb hX hbl hbA hS (hin 1 (by decide)) dL_law_934 ?_
  refine lv_aload_n hx hb dL_law_935 rfl (lv_at hl 0 rfl) ?_
  refine lv_iload_n hx hb dL_law_936 rfl (lv_at hl 3 rfl) ?_
  refine lv_iconst (v := 2) hx hb dL_law_937 (by decide) ?_
  refine lv_iadd hx hb dL_law_938 ?_
  refine va_sld hx hb hX hbl hbA hS (hin 2 (by decide)) dL_law_939 ?_
  refine lv_aload_n hx hb dL_law_940 rfl (lv_at hl 0 rfl) ?_
  refine lv_iload_n hx hb dL_law_941 rfl (lv_at hl 3 rfl) ?_
  refine lv_iconst (v := 3) hx hb dL_law_942 (by decide) ?_
  refine lv_iadd hx hb dL_law_943 ?_
  refine va_sld hx hb hX hbl hbA hS (hin 3 (by decide)) dL_law_944 ?_
  refine zw_calli hAM hA hS (zw_run (As := [.int (xs (x3 + (1 : Int32)).toNatClampNeg), .int (xs (x3 + (2 : Int32)).toNatClampNeg), .int (xs (x3 + (3 : Int32)).toNatClampNeg)]) (rest := [.int r9]) hx hb hml hown hts hK zEM_good hzM hAM hA trivial hPM hS 0 (kX7_without (l := l) (D := D) (a := aM) (cI := cI) (cJ := cJ) (cC := cC) e2 _) (cwV 3 hts gL_law_X7_without rfl rfl rfl (by decide +kernel) ⟨Nat.le_of_ble_eq_true rfl, Nat.le_of_ble_eq_true rfl⟩) (by decide) (zcM_0 _ _ _ _ _ _) rfl rfl rfl hl.1 rfl (Nat.le_of_ble_eq_true rfl) ⟨Nat.le_of_ble_eq_true rfl, Nat.le_of_ble_eq_true rfl⟩ dL_law_945) (fun H locs hPM hS hk9 => ?_)
  have hPC := zw_kept hPC (fun i j hi hj => (hdis j i hj hi).symm) hk9
  exact lv_icmp_eq (tgt := 1441) hx hb dL_law_948 (by decide) (fun _ => hend _ _ _ _ hR1 hPC hPM hS ls hl) (fun c9 => absurd rfl c9)
set_option maxHeartbeats 4000000 in
set_option maxRecDepth 100000 in
theorem law_case21 {p : Program} {l : Launch} {e : Env} {s : State} {m : MethodId} {below : List Frame} {meth : Method} {c : Code} {b L : Nat} {xs : Nat → Int32} {D : va_G} {aC aM adK adV : Nat → Nat} {cI cJ cC : ClassId} {R : ZS → ZS → Prop} (hstep : zStep21 R) (C0 : lw_At p s m meth c b L xs) (Z : zLaw s D aC aM adK adV cI cJ cC) {x3 : Int32} (hin : ∀ k : Nat, k < 8 → vp_in (x3 + nI k) L) {σ τ : ZS} (hR : R σ τ) (H : Heap) (locs : List Loc) (ls : Array Slot) (hPC : va_P D vwCl (zW (zcC aC cI cJ cC) 41 aC σ) H) (hPM : va_P D vwCl (zW (zcM aM cI cJ cC) 17 aM τ) H) (hS : va_S (fun q : Nat => s.heap.size ≤ q) s.heap H locs) (hl : lv_has ls 4 [(0, .ref b), (1, .ref (aC 0)), (2, .ref (aM 0)), (3, .int x3)]) (hend : ∀ (σ τ : ZS) (H : Heap) (locs : List Loc), R σ τ → va_P D vwCl (zW (zcC aC cI cJ cC) 41 aC σ) H → va_P D vwCl (zW (zcM aM cI cJ cC) 17 aM τ) H → va_S (fun q : Nat => s.heap.size ≤ q) s.heap H locs → ∀ ls : Array Slot, lv_has ls 4 [(0, .ref b), (1, .ref (aC 0)), (2, .ref (aM 0)), (3, .int x3)] → W p l e room_1 s m #[Value.ref b] below meth c H locs 58 1286 (lw_Z below #[Value.ref b] s) (F0 m 1441 ls [])) : W p l e room_1 s m #[Value.ref b] below meth c H locs 58 1286 (lw_Z below #[Value.ref b] s) (F0 m 953 ls []) := by
  obtain ⟨hx, hb, hr, hml, hown, hts0, hX, hbl, hlocks, hgv⟩ := C0
  obtain ⟨hK, hzC, hzM, hdis, hAC, hAM, hE⟩ := Z
  have hK2 : va_K D vwCl [(cI, .int), (cJ, .long)] s := hK.sub [0, 1] rfl
  have hts : ∀ w ∈ wsL_law, w.before #[Value.ref b] s = true := fun w h => hts0 w (wsL_law_in w h)
  have hown : s.vm.findClass RL = some m.cls := hown
  have hA : ∀ q : Nat, s.heap.size ≤ q → (fun q : Nat => s.heap.size ≤ q) q := fun _ h => h
  have hbA : ¬ (fun q : Nat => s.heap.size ≤ q) b := Nat.not_le.mpr hbl
  obtain ⟨r9, σ1, τ1, e1, e2, hR1⟩ := hstep σ τ (xs (x3 + (1 : Int32)).toNatClampNeg) (xs (x3 + (2 : Int32)).toNatClampNeg) (xs (x3 + (3 : Int32)).toNatClampNeg) hR
  refine lv_aload_n hx hb dL_law_953 rfl (lv_at hl 1 rfl) ?_
  refine lv_aload_n hx hb dL_law_954 rfl (lv_at hl 0 rfl) ?_
  refine lv_iload_n hx hb dL_law_955 rfl (lv_at hl 3 rfl) ?_
  refine lv_iconst (v := 1) hx hb dL_law_956 (by decide) ?_
  refine lv_iadd hx hb dL_law_957 ?_
  refine va_sld hx hb hX hbl hbA hS (hin 1 (by decide)) dL_law_958 ?_
  refine lv_aload_n hx hb dL_law_959 rfl (lv_at hl 0 rfl) ?_
  refine lv_iload_n hx hb dL_law_960 rfl (lv_at hl 3 rfl) ?_
  refine lv_iconst (v := 2) hx hb dL_law_961 (by decide) ?_
  refine lv_iadd hx hb dL_law_962 ?_
  refine va_sld hx hb hX hbl hbA hS (hin 2 (by decide)) dL_law_963 ?_
  refine lv_aload_n hx hb dL_law_964 rfl (lv_at hl 0 rfl) ?_
  refine lv_iload_n hx hb dL_law_965 rfl (lv_at hl 3 rfl) ?_
  refine lv_iconst (v := 3) hx hb dL_law_966 (by decide) ?_
  refine lv_iadd hx hb dL_law_967 ?_
  refine va_sld hx hb hX hbl hbA hS (hin 3 (by decide)) dL_law_968 ?_
  refine zw_calli hAC hA hS (zw_run (As := [.int (xs (x3 + (1 : Int32)).toNatClampNeg), .int (xs (x3 + (2 : Int32)).toNatClampNeg), .int (xs (x3 + (3 : Int32)).toNatClampNeg)]) (rest := []) hx hb hml hown hts hK2 (zEC_good adK adV) hzC hAC hA hE hPC hS 0 (kX6_dark (l := l) (D := D) (a := aC) (cI := cI) (cJ := cJ) (cC := cC) (adK := adK) (adV := adV) e1 _) (cwV 3 hts gL_law_X6_dark rfl rfl rfl (by decide +kernel) ⟨Nat.le_of_ble_eq_true rfl, Nat.le_of_ble_eq_true rfl⟩) (by decide) (zcC_0 _ _ _ _ _ _) rfl rfl rfl hl.1 rfl (Nat.le_of_ble_eq_true rfl) ⟨Nat.le_of_ble_eq_true rfl, Nat.le_of_ble_eq_true rfl⟩ dL_law_969) (fun H locs hPC hS hk9 => ?_)
  have hPM := zw_kept hPM hdis hk9
  refine lv_aload_n hx hb dL_law_972 rfl (lv_at hl 2 rfl) ?_
  refine lv_aload_n hx hb dL_law_973 rfl (lv_at hl 0 rfl) ?_
  refine lv_iload_n hx hb dL_law_974 rfl (lv_at hl 3 rfl) ?_
  refine lv_iconst (v := 1) hx hb dL_law_975 (by decide) ?_
  refine lv_iadd hx hb dL_law_976 ?_
  refine va_sld hx hb hX hbl hbA hS (hin 1 (by decide)) dL_law_977 ?_
  refine lv_aload_n hx hb dL_law_978 rfl (lv_at hl 0 rfl) ?_
  refine lv_iload_n hx hb dL_law_979 rfl (lv_at hl 3 rfl) ?_
  refine lv_iconst (v := 2) hx hb dL_law_980 (by decide) ?_
  refine lv_iadd hx hb dL_law_981 ?_
  refine va_sld hx hb hX hbl hbA hS (hin 2 (by decide)) dL_law_982 ?_
  refine lv_aload_n hx hb dL_law_983 rfl (lv_at hl 0 rfl) ?_
  refine lv_iload_n hx hb dL_law_984 rfl (lv_at hl 3 rfl) ?_
  refine lv_iconst (v := 3) hx hb dL_law_985 (by decide) ?_
  refine lv_iadd hx hb dL_law_986 ?_
  refine va_sld hx hb hX hbl hbA hS (hin 3 (by decide)) dL_law_987 ?_
  refine zw_calli hAM hA hS (zw_run (As := [.int (xs (x3 + (1 : Int32)).toNatClampNeg), .int (xs (x3 + (2 : Int32)).toNatClampNeg), .int (xs (x3 + (3 : Int32)).toNatClampNeg)]) (rest := [.int r9]) hx hb hml hown hts hK zEM_good hzM hAM hA trivial hPM hS 0 (kX7_dark (l := l) (D := D) (a := aM) (cI := cI) (cJ := cJ) (cC := cC) e2 _) (cwV 3 hts gL_law_X7_dark rfl rfl rfl (by decide +kernel) ⟨Nat.le_of_ble_eq_true rfl, Nat.le_of_ble_eq_true rfl⟩) (by decide) (zcM_0 _ _ _ _ _ _) rfl rfl rfl hl.1 rfl (Nat.le_of_ble_eq_true rfl) ⟨Nat.le_of_ble_eq_true rfl, Nat.le_of_ble_eq_true rfl⟩ dL_law_988) (fun H locs hPM hS hk9 => ?_)
  have hPC := zw_kept hPC (fun i j hi hj => (hdis j i hj hi).symm) hk9
  exact lv_icmp_eq (tgt := 1441) hx hb dL_law_991 (by decide) (fun _ => hend _ _ _ _ hR1 hPC hPM hS ls hl) (fun c9 => absurd rfl c9)
set_option maxHeartbeats 4000000 in
set_option maxRecDepth 100000 in
theorem law_case22 {p : Program} {l : Launch} {e : Env} {s : State} {m : MethodId} {below : List Frame} {meth : Method} {c : Code} {b L : Nat} {xs : Nat → Int32} {D : va_G} {aC aM adK adV : Nat → Nat} {cI cJ cC : ClassId} {R : ZS → ZS → Prop} (hstep : zStep22 R) (C0 : lw_At p s m meth c b L xs) (Z : zLaw s D aC aM adK adV cI cJ cC) {x3 : Int32} (hin : ∀ k : Nat, k < 8 → vp_in (x3 + nI k) L) {σ τ : ZS} (hR : R σ τ) (H : Heap) (locs : List Loc) (ls : Array Slot) (hPC : va_P D vwCl (zW (zcC aC cI cJ cC) 41 aC σ) H) (hPM : va_P D vwCl (zW (zcM aM cI cJ cC) 17 aM τ) H) (hS : va_S (fun q : Nat => s.heap.size ≤ q) s.heap H locs) (hl : lv_has ls 4 [(0, .ref b), (1, .ref (aC 0)), (2, .ref (aM 0)), (3, .int x3)]) (hend : ∀ (σ τ : ZS) (H : Heap) (locs : List Loc), R σ τ → va_P D vwCl (zW (zcC aC cI cJ cC) 41 aC σ) H → va_P D vwCl (zW (zcM aM cI cJ cC) 17 aM τ) H → va_S (fun q : Nat => s.heap.size ≤ q) s.heap H locs → ∀ ls : Array Slot, lv_has ls 4 [(0, .ref b), (1, .ref (aC 0)), (2, .ref (aM 0)), (3, .int x3)] → W p l e room_1 s m #[Value.ref b] below meth c H locs 58 1286 (lw_Z below #[Value.ref b] s) (F0 m 1441 ls [])) : W p l e room_1 s m #[Value.ref b] below meth c H locs 58 1286 (lw_Z below #[Value.ref b] s) (F0 m 996 ls []) := by
  obtain ⟨hx, hb, hr, hml, hown, hts0, hX, hbl, hlocks, hgv⟩ := C0
  obtain ⟨hK, hzC, hzM, hdis, hAC, hAM, hE⟩ := Z
  have hK2 : va_K D vwCl [(cI, .int), (cJ, .long)] s := hK.sub [0, 1] rfl
  have hts : ∀ w ∈ wsL_law, w.before #[Value.ref b] s = true := fun w h => hts0 w (wsL_law_in w h)
  have hown : s.vm.findClass RL = some m.cls := hown
  have hA : ∀ q : Nat, s.heap.size ≤ q → (fun q : Nat => s.heap.size ≤ q) q := fun _ h => h
  have hbA : ¬ (fun q : Nat => s.heap.size ≤ q) b := Nat.not_le.mpr hbl
  obtain ⟨r9, σ1, τ1, e1, e2, hR1⟩ := hstep σ τ (xs (x3 + (1 : Int32)).toNatClampNeg) (xs (x3 + (2 : Int32)).toNatClampNeg) hR
  refine lv_aload_n hx hb dL_law_996 rfl (lv_at hl 1 rfl) ?_
  refine lv_aload_n hx hb dL_law_997 rfl (lv_at hl 0 rfl) ?_
  refine lv_iload_n hx hb dL_law_998 rfl (lv_at hl 3 rfl) ?_
  refine lv_iconst (v := 1) hx hb dL_law_999 (by decide) ?_
  refine lv_iadd hx hb dL_law_1000 ?_
  refine va_sld hx hb hX hbl hbA hS (hin 1 (by decide)) dL_law_1001 ?_
  refine lv_aload_n hx hb dL_law_1002 rfl (lv_at hl 0 rfl) ?_
  refine lv_iload_n hx hb dL_law_1003 rfl (lv_at hl 3 rfl) ?_
  refine lv_iconst (v := 2) hx hb dL_law_1004 (by decide) ?_
  refine lv_iadd hx hb dL_law_1005 ?_
  refine va_sld hx hb hX hbl hbA hS (hin 2 (by decide)) dL_law_1006 ?_
  refine zw_calli hAC hA hS (zw_run (As := [.int (xs (x3 + (1 : Int32)).toNatClampNeg), .int (xs (x3 + (2 : Int32)).toNatClampNeg)]) (rest := []) hx hb hml hown hts hK2 (zEC_good adK adV) hzC hAC hA hE hPC hS 0 (kX6_fades (l := l) (D := D) (a := aC) (cI := cI) (cJ := cJ) (cC := cC) (adK := adK) (adV := adV) e1 _) (cwV 2 hts gL_law_X6_fades rfl rfl rfl (by decide +kernel) ⟨Nat.le_of_ble_eq_true rfl, Nat.le_of_ble_eq_true rfl⟩) (by decide) (zcC_0 _ _ _ _ _ _) rfl rfl rfl hl.1 rfl (Nat.le_of_ble_eq_true rfl) ⟨Nat.le_of_ble_eq_true rfl, Nat.le_of_ble_eq_true rfl⟩ dL_law_1007) (fun H locs hPC hS hk9 => ?_)
  have hPM := zw_kept hPM hdis hk9
  refine lv_aload_n hx hb dL_law_1010 rfl (lv_at hl 2 rfl) ?_
  refine lv_aload_n hx hb dL_law_1011 rfl (lv_at hl 0 rfl) ?_
  refine lv_iload_n hx hb dL_law_1012 rfl (lv_at hl 3 rfl) ?_
  refine lv_iconst (v := 1) hx hb dL_law_1013 (by decide) ?_
  refine lv_iadd hx hb dL_law_1014 ?_
  refine va_sld hx hb hX hbl hbA hS (hin 1 (by decide)) dL_law_1015 ?_
  refine lv_aload_n hx hb dL_law_1016 rfl (lv_at hl 0 rfl) ?_
  refine lv_iload_n hx hb dL_law_1017 rfl (lv_at hl 3 rfl) ?_
  refine lv_iconst (v := 2) hx hb dL_law_1018 (by decide) ?_
  refine lv_iadd hx hb dL_law_1019 ?_
  refine va_sld hx hb hX hbl hbA hS (hin 2 (by decide)) dL_law_1020 ?_
  refine zw_calli hAM hA hS (zw_run (As := [.int (xs (x3 + (1 : Int32)).toNatClampNeg), .int (xs (x3 + (2 : Int32)).toNatClampNeg)]) (rest := [.int r9]) hx hb hml hown hts hK zEM_good hzM hAM hA trivial hPM hS 0 (kX7_fades (l := l) (D := D) (a := aM) (cI := cI) (cJ := cJ) (cC := cC) e2 _) (cwV 2 hts gL_law_X7_fades rfl rfl rfl (by decide +kernel) ⟨Nat.le_of_ble_eq_true rfl, Nat.le_of_ble_eq_true rfl⟩) (by decide) (zcM_0 _ _ _ _ _ _) rfl rfl rfl hl.1 rfl (Nat.le_of_ble_eq_true rfl) ⟨Nat.le_of_ble_eq_true rfl, Nat.le_of_ble_eq_true rfl⟩ dL_law_1021) (fun H locs hPM hS hk9 => ?_)
  have hPC := zw_kept hPC (fun i j hi hj => (hdis j i hj hi).symm) hk9
  exact lv_icmp_eq (tgt := 1441) hx hb dL_law_1024 (by decide) (fun _ => hend _ _ _ _ hR1 hPC hPM hS ls hl) (fun c9 => absurd rfl c9)
set_option maxHeartbeats 4000000 in
set_option maxRecDepth 100000 in
theorem law_case23 {p : Program} {l : Launch} {e : Env} {s : State} {m : MethodId} {below : List Frame} {meth : Method} {c : Code} {b L : Nat} {xs : Nat → Int32} {D : va_G} {aC aM adK adV : Nat → Nat} {cI cJ cC : ClassId} {R : ZS → ZS → Prop} (hstep : zStep23 R) (C0 : lw_At p s m meth c b L xs) (Z : zLaw s D aC aM adK adV cI cJ cC) {x3 : Int32} (hin : ∀ k : Nat, k < 8 → vp_in (x3 + nI k) L) {σ τ : ZS} (hR : R σ τ) (H : Heap) (locs : List Loc) (ls : Array Slot) (hPC : va_P D vwCl (zW (zcC aC cI cJ cC) 41 aC σ) H) (hPM : va_P D vwCl (zW (zcM aM cI cJ cC) 17 aM τ) H) (hS : va_S (fun q : Nat => s.heap.size ≤ q) s.heap H locs) (hl : lv_has ls 4 [(0, .ref b), (1, .ref (aC 0)), (2, .ref (aM 0)), (3, .int x3)]) (hend : ∀ (σ τ : ZS) (H : Heap) (locs : List Loc), R σ τ → va_P D vwCl (zW (zcC aC cI cJ cC) 41 aC σ) H → va_P D vwCl (zW (zcM aM cI cJ cC) 17 aM τ) H → va_S (fun q : Nat => s.heap.size ≤ q) s.heap H locs → ∀ ls : Array Slot, lv_has ls 4 [(0, .ref b), (1, .ref (aC 0)), (2, .ref (aM 0)), (3, .int x3)] → W p l e room_1 s m #[Value.ref b] below meth c H locs 58 1286 (lw_Z below #[Value.ref b] s) (F0 m 1441 ls [])) : W p l e room_1 s m #[Value.ref b] below meth c H locs 58 1286 (lw_Z below #[Value.ref b] s) (F0 m 1029 ls []) := by
  obtain ⟨hx, hb, hr, hml, hown, hts0, hX, hbl, hlocks, hgv⟩ := C0
  obtain ⟨hK, hzC, hzM, hdis, hAC, hAM, hE⟩ := Z
  have hK2 : va_K D vwCl [(cI, .int), (cJ, .long)] s := hK.sub [0, 1] rfl
  have hts : ∀ w ∈ wsL_law, w.before #[Value.ref b] s = true := fun w h => hts0 w (wsL_law_in w h)
  have hown : s.vm.findClass RL = some m.cls := hown
  have hA : ∀ q : Nat, s.heap.size ≤ q → (fun q : Nat => s.heap.size ≤ q) q := fun _ h => h
  have hbA : ¬ (fun q : Nat => s.heap.size ≤ q) b := Nat.not_le.mpr hbl
  obtain ⟨r9, σ1, τ1, e1, e2, hR1⟩ := hstep σ τ (xs (x3 + (1 : Int32)).toNatClampNeg) (xs (x3 + (2 : Int32)).toNatClampNeg) (xs (x3 + (3 : Int32)).toNatClampNeg) (xs (x3 + (4 : Int32)).toNatClampNeg) (xs (x3 + (5 : Int32)).toNatClampNeg) hR
  refine lv_aload_n hx hb dL_law_1029 rfl (lv_at hl 1 rfl) ?_
  refine lv_aload_n hx hb dL_law_1030 rfl (lv_at hl 0 rfl) ?_
  refine lv_iload_n hx hb dL_law_1031 rfl (lv_at hl 3 rfl) ?_
  refine lv_iconst (v := 1) hx hb dL_law_1032 (by decide) ?_
  refine lv_iadd hx hb dL_law_1033 ?_
  refine va_sld hx hb hX hbl hbA hS (hin 1 (by decide)) dL_law_1034 ?_
  refine lv_aload_n hx hb dL_law_1035 rfl (lv_at hl 0 rfl) ?_
  refine lv_iload_n hx hb dL_law_1036 rfl (lv_at hl 3 rfl) ?_
  refine lv_iconst (v := 2) hx hb dL_law_1037 (by decide) ?_
  refine lv_iadd hx hb dL_law_1038 ?_
  refine va_sld hx hb hX hbl hbA hS (hin 2 (by decide)) dL_law_1039 ?_
  refine lv_aload_n hx hb dL_law_1040 rfl (lv_at hl 0 rfl) ?_
  refine lv_iload_n hx hb dL_law_1041 rfl (lv_at hl 3 rfl) ?_
  refine lv_iconst (v := 3) hx hb dL_law_1042 (by decide) ?_
  refine lv_iadd hx hb dL_law_1043 ?_
  refine va_sld hx hb hX hbl hbA hS (hin 3 (by decide)) dL_law_1044 ?_
  refine lv_aload_n hx hb dL_law_1045 rfl (lv_at hl 0 rfl) ?_
  refine lv_iload_n hx hb dL_law_1046 rfl (lv_at hl 3 rfl) ?_
  refine lv_iconst (v := 4) hx hb dL_law_1047 (by decide) ?_
  refine lv_iadd hx hb dL_law_1048 ?_
  refine va_sld hx hb hX hbl hbA hS (hin 4 (by decide)) dL_law_1049 ?_
  refine lv_aload_n hx hb dL_law_1050 rfl (lv_at hl 0 rfl) ?_
  refine lv_iload_n hx hb dL_law_1051 rfl (lv_at hl 3 rfl) ?_
  refine lv_iconst (v := 5) hx hb dL_law_1052 (by decide) ?_
  refine lv_iadd hx hb dL_law_1053 ?_
  refine va_sld hx hb hX hbl hbA hS (hin 5 (by decide)) dL_law_1054 ?_
  refine zw_calli hAC hA hS (zw_run (As := [.int (xs (x3 + (1 : Int32)).toNatClampNeg), .int (xs (x3 + (2 : Int32)).toNatClampNeg), .int (xs (x3 + (3 : Int32)).toNatClampNeg), .int (xs (x3 + (4 : Int32)).toNatClampNeg), .int (xs (x3 + (5 : Int32)).toNatClampNeg)]) (rest := []) hx hb hml hown hts hK2 (zEC_good adK adV) hzC hAC hA hE hPC hS 0 (kX6_was (l := l) (D := D) (a := aC) (cI := cI) (cJ := cJ) (cC := cC) (adK := adK) (adV := adV) e1 _) (cwV 5 hts gL_law_X6_was rfl rfl rfl (by decide +kernel) ⟨Nat.le_of_ble_eq_true rfl, Nat.le_of_ble_eq_true rfl⟩) (by decide) (zcC_0 _ _ _ _ _ _) rfl rfl rfl hl.1 rfl (Nat.le_of_ble_eq_true rfl) ⟨Nat.le_of_ble_eq_true rfl, Nat.le_of_ble_eq_true rfl⟩ dL_law_1055) (fun H locs hPC hS hk9 => ?_)
  have hPM := zw_kept hPM hdis hk9
  refine lv_aload_n hx hb dL_law_1058 rfl (lv_at hl 2 rfl) ?_
  refine lv_aload_n hx hb dL_law_1059 rfl (lv_at hl 0 rfl) ?_
  refine lv_iload_n hx hb dL_law_1060 rfl (lv_at hl 3 rfl) ?_
  refine lv_iconst (v := 1) hx hb dL_law_1061 (by decide) ?_
  refine lv_iadd hx hb dL_law_1062 ?_
  refine va_sld hx hb hX hbl hbA hS (hin 1 (by decide)) dL_law_1063 ?_
  refine lv_aload_n hx hb dL_law_1064 rfl (lv_at hl 0 rfl) ?_
  refine lv_iload_n hx hb dL_law_1065 rfl (lv_at hl 3 rfl) ?_
  refine lv_iconst (v := 2) hx hb dL_law_1066 (by decide) ?_
  refine lv_iadd hx hb dL_law_1067 ?_
  refine va_sld hx hb hX hbl hbA hS (hin 2 (by decide)) dL_law_1068 ?_
  refine lv_aload_n hx hb dL_law_1069 rfl (lv_at hl 0 rfl) ?_
  refine lv_iload_n hx hb dL_law_1070 rfl (lv_at hl 3 rfl) ?_
  refine lv_iconst (v := 3) hx hb dL_law_1071 (by decide) ?_
  refine lv_iadd hx hb dL_law_1072 ?_
  refine va_sld hx hb hX hbl hbA hS (hin 3 (by decide)) dL_law_1073 ?_
  refine lv_aload_n hx hb dL_law_1074 rfl (lv_at hl 0 rfl) ?_
  refine lv_iload_n hx hb dL_law_1075 rfl (lv_at hl 3 rfl) ?_
  refine lv_iconst (v := 4) hx hb dL_law_1076 (by decide) ?_
  refine lv_iadd hx hb dL_law_1077 ?_
  refine va_sld hx hb hX hbl hbA hS (hin 4 (by decide)) dL_law_1078 ?_
  refine lv_aload_n hx hb dL_law_1079 rfl (lv_at hl 0 rfl) ?_
  refine lv_iload_n hx hb dL_law_1080 rfl (lv_at hl 3 rfl) ?_
  refine lv_iconst (v := 5) hx hb dL_law_1081 (by decide) ?_
  refine lv_iadd hx hb dL_law_1082 ?_
  refine va_sld hx hb hX hbl hbA hS (hin 5 (by decide)) dL_law_1083 ?_
  refine zw_calli hAM hA hS (zw_run (As := [.int (xs (x3 + (1 : Int32)).toNatClampNeg), .int (xs (x3 + (2 : Int32)).toNatClampNeg), .int (xs (x3 + (3 : Int32)).toNatClampNeg), .int (xs (x3 + (4 : Int32)).toNatClampNeg), .int (xs (x3 + (5 : Int32)).toNatClampNeg)]) (rest := [.int r9]) hx hb hml hown hts hK zEM_good hzM hAM hA trivial hPM hS 0 (kX7_was (l := l) (D := D) (a := aM) (cI := cI) (cJ := cJ) (cC := cC) e2 _) (cwV 5 hts gL_law_X7_was rfl rfl rfl (by decide +kernel) ⟨Nat.le_of_ble_eq_true rfl, Nat.le_of_ble_eq_true rfl⟩) (by decide) (zcM_0 _ _ _ _ _ _) rfl rfl rfl hl.1 rfl (Nat.le_of_ble_eq_true rfl) ⟨Nat.le_of_ble_eq_true rfl, Nat.le_of_ble_eq_true rfl⟩ dL_law_1084) (fun H locs hPM hS hk9 => ?_)
  have hPC := zw_kept hPC (fun i j hi hj => (hdis j i hj hi).symm) hk9
  exact lv_icmp_eq (tgt := 1441) hx hb dL_law_1087 (by decide) (fun _ => hend _ _ _ _ hR1 hPC hPM hS ls hl) (fun c9 => absurd rfl c9)
