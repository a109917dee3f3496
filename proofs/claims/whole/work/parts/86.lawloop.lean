set_option maxHeartbeats 8000000 in
set_option maxRecDepth 100000 in
theorem law_loop {p : Program} {l : Launch} {e : Env} {s : State} {m : MethodId} {below : List Frame} {meth : Method} {c : Code} {b L : Nat} {xs : Nat → Int32} {D : va_G} {aC aM adK adV : Nat → Nat} {cI cJ cC : ClassId} {R : ZS → ZS → Prop} (hsteps : zSteps R) (hL : L ≤ 4096) (C0 : lw_At p s m meth c b L xs) (Z : zLaw s D aC aM adK adV cI cJ cC) : ∀ (n i : Nat) (x3 : Int32), i ≤ L → L + 1 ≤ i + n → x3 = nI i → ∀ (σ τ : ZS) (H : Heap) (locs : List Loc), R σ τ → va_P D vwCl (zW (zcC aC cI cJ cC) 41 aC σ) H → va_P D vwCl (zW (zcM aM cI cJ cC) 17 aM τ) H → va_S (fun q : Nat => s.heap.size ≤ q) s.heap H locs → ∀ ls : Array Slot, lv_has ls 4 [(0, .ref b), (1, .ref (aC 0)), (2, .ref (aM 0)), (3, .int x3)] → W p l e room_1 s m #[Value.ref b] below meth c H locs 58 1286 (lw_Z below #[Value.ref b] s) (F0 m 18 ls []) := by
  obtain ⟨hx, hb, hr, hml, hown, hts0, hX, hbl, hlocks, hgv⟩ := id C0
  have hbA : ¬ (fun q : Nat => s.heap.size ≤ q) b := Nat.not_le.mpr hbl
  obtain ⟨t0, t1, t2, t3, t4, t5, t6, t7, t8, t9, t10, t11, t12, t13, t14, t15, t16, t17, t18, t19, t20, t21, t22, t23, t24, t25, t26, t27, t28, t29, t30, t31, t32, t33, t34⟩ := hsteps
  intro n
  induction n with
  | zero =>
    intro i x3 h1 h2
    exact absurd h2 (by omega)
  | succ n ih =>
    intro i x3 hi hin0 ex3 σ τ H locs hR hPC hPM hS ls hl
    refine lv_iload_n hx hb dL_law_18 rfl (lv_at hl 3 rfl) ?_
    refine lv_aload_n hx hb dL_law_19 rfl (lv_at hl 0 rfl) ?_
    refine va_slen hx hb hX hbl hbA hS dL_law_20 ?_
    refine lv_bipush (v := 8) hx hb dL_law_21 (by decide) ?_
    refine lv_isub hx hb dL_law_23 ?_
    refine lv_icmp_gt (tgt := 1447) hx hb dL_law_24 (by decide) (fun c1 => ?_) (fun c1 => ?_)
    · refine lv_iconst (v := 1) hx hb dL_law_1447 (by decide) ?_
      refine va_forget (fun q hq => hS.2.2 q hq) ?_
      exact lw_ret hx hb hr hlocks dL_law_1448
    · have hi8 : i + 8 ≤ L := by
        rcases Nat.lt_or_ge L (i + 8) with q | q
        · refine absurd ?_ c1
          rw [ex3, Int32.lt_iff_toInt_lt, nI_toInt (by omega), show (8 : Int32) = nI 8 from rfl]
          have := pk_sub_toInt (a := L) (b := 8) (by omega) (by omega)
          show (nI L - nI 8).toInt < _
          rw [this]
          omega
        · exact q
      have hin : ∀ k : Nat, k < 8 → vp_in (x3 + nI k) L := fun k hk => by rw [ex3, nI_add]; exact vp_in_nI (by omega) (by omega)
      have hin0 : vp_in x3 L := by rw [ex3]; exact vp_in_nI (by omega) (by omega)
      have hend : ∀ (σ τ : ZS) (H : Heap) (locs : List Loc), R σ τ → va_P D vwCl (zW (zcC aC cI cJ cC) 41 aC σ) H → va_P D vwCl (zW (zcM aM cI cJ cC) 17 aM τ) H → va_S (fun q : Nat => s.heap.size ≤ q) s.heap H locs → ∀ ls : Array Slot, lv_has ls 4 [(0, .ref b), (1, .ref (aC 0)), (2, .ref (aM 0)), (3, .int x3)] → W p l e room_1 s m #[Value.ref b] below meth c H locs 58 1286 (lw_Z below #[Value.ref b] s) (F0 m 1441 ls []) := by
        intro σ τ H locs hR hPC hPM hS ls hl
        refine lv_iinc (v := x3 + 8) (lv' := [(3, .int (x3 + 8)), (0, .ref b), (1, .ref (aC 0)), (2, .ref (aM 0))]) hx hb dL_law_1441 hl (k := 3) rfl rfl (by decide) rfl (fun ls hl => ?_)
        refine lv_goto (tgt := 18) hx hb dL_law_1444 (by decide) ?_
        exact ih (i + 8) (x3 + 8) hi8 (by omega) (by rw [ex3, show (8 : Int32) = nI 8 from rfl, nI_add]) σ τ H locs hR hPC hPM hS ls (lv_sub hl [1, 2, 3, 0] rfl)
      refine lv_aload_n hx hb dL_law_27 rfl (lv_at hl 0 rfl) ?_
      refine lv_iload_n hx hb dL_law_28 rfl (lv_at hl 3 rfl) ?_
      refine va_sld hx hb hX hbl hbA hS hin0 dL_law_29 ?_
      refine lv_bipush (v := 63) hx hb dL_law_30 (by decide) ?_
      refine lv_iand hx hb dL_law_32 ?_
      refine lv_topi (fun v ev => ?_)
      by_cases c10 : v = (0 : Int32)
      · refine lv_tableIn (tgt := 188) hx hb dL_law_33 (by rw [c10]; decide) (by rw [c10]; decide) (by rw [c10]; rfl) (by decide) ?_
        exact law_case0 t0 C0 Z hin hR H locs ls hPC hPM hS hl hend
      by_cases c11 : v = (1 : Int32)
      · refine lv_tableIn (tgt := 211) hx hb dL_law_33 (by rw [c11]; decide) (by rw [c11]; decide) (by rw [c11]; rfl) (by decide) ?_
        exact law_case1 t1 C0 Z hin hR H locs ls hPC hPM hS hl hend
      by_cases c12 : v = (2 : Int32)
      · refine lv_tableIn (tgt := 224) hx hb dL_law_33 (by rw [c12]; decide) (by rw [c12]; decide) (by rw [c12]; rfl) (by decide) ?_
        exact law_case2 t2 C0 Z hin hR H locs ls hPC hPM hS hl hend
      by_cases c13 : v = (3 : Int32)
      · refine lv_tableIn (tgt := 267) hx hb dL_law_33 (by rw [c13]; decide) (by rw [c13]; decide) (by rw [c13]; rfl) (by decide) ?_
        exact law_case3 t3 C0 Z hin hR H locs ls hPC hPM hS hl hend
      by_cases c14 : v = (4 : Int32)
      · refine lv_tableIn (tgt := 310) hx hb dL_law_33 (by rw [c14]; decide) (by rw [c14]; decide) (by rw [c14]; rfl) (by decide) ?_
        exact law_case4 t4 C0 Z hin hR H locs ls hPC hPM hS hl hend
      by_cases c15 : v = (5 : Int32)
      · refine lv_tableIn (tgt := 343) hx hb dL_law_33 (by rw [c15]; decide) (by rw [c15]; decide) (by rw [c15]; rfl) (by decide) ?_
        exact law_case5 t5 C0 Z hin hR H locs ls hPC hPM hS hl hend
      by_cases c16 : v = (6 : Int32)
      · refine lv_tableIn (tgt := 356) hx hb dL_law_33 (by rw [c16]; decide) (by rw [c16]; decide) (by rw [c16]; rfl) (by decide) ?_
        exact law_case6 t6 C0 Z hin hR H locs ls hPC hPM hS hl hend
      by_cases c17 : v = (7 : Int32)
      · refine lv_tableIn (tgt := 389) hx hb dL_law_33 (by rw [c17]; decide) (by rw [c17]; decide) (by rw [c17]; rfl) (by decide) ?_
        exact law_case7 t7 C0 Z hin hR H locs ls hPC hPM hS hl hend
      by_cases c18 : v = (8 : Int32)
      · refine lv_tableIn (tgt := 412) hx hb dL_law_33 (by rw [c18]; decide) (by rw [c18]; decide) (by rw [c18]; rfl) (by decide) ?_
        exact law_case8 t8 C0 Z hin hR H locs ls hPC hPM hS hl hend
      by_cases c19 : v = (9 : Int32)
      · refine lv_tableIn (tgt := 445) hx hb dL_law_33 (by rw [c19]; decide) (by rw [c19]; decide) (by rw [c19]; rfl) (by decide) ?_
        exact law_case9 t9 C0 Z hin hR H locs ls hPC hPM hS hl hend
      by_cases c20 : v = (10 : Int32)
      · refine lv_tableIn (tgt := 488) hx hb dL_law_33 (by rw [c20]; decide) (by rw [c20]; decide) (by rw [c20]; rfl) (by decide) ?_
        exact law_case10 t10 C0 Z hin hR H locs ls hPC hPM hS hl hend
      by_cases c21 : v = (11 : Int32)
      · refine lv_tableIn (tgt := 531) hx hb dL_law_33 (by rw [c21]; decide) (by rw [c21]; decide) (by rw [c21]; rfl) (by decide) ?_
        exact law_case11 t11 C0 Z hin hR H locs ls hPC hPM hS hl hend
      by_cases c22 : v = (12 : Int32)
      · refine lv_tableIn (tgt := 575) hx hb dL_law_33 (by rw [c22]; decide) (by rw [c22]; decide) (by rw [c22]; rfl) (by decide) ?_
        exact law_case12 t12 C0 Z hin hR H locs ls hPC hPM hS hl hend
      by_cases c23 : v = (13 : Int32)
      · refine lv_tableIn (tgt := 639) hx hb dL_law_33 (by rw [c23]; decide) (by rw [c23]; decide) (by rw [c23]; rfl) (by decide) ?_
        exact law_case13 t13 C0 Z hin hR H locs ls hPC hPM hS hl hend
      by_cases c24 : v = (14 : Int32)
      · refine lv_tableIn (tgt := 692) hx hb dL_law_33 (by rw [c24]; decide) (by rw [c24]; decide) (by rw [c24]; rfl) (by decide) ?_
        exact law_case14 t14 C0 Z hin hR H locs ls hPC hPM hS hl hend
      by_cases c25 : v = (15 : Int32)
      · refine lv_tableIn (tgt := 735) hx hb dL_law_33 (by rw [c25]; decide) (by rw [c25]; decide) (by rw [c25]; rfl) (by decide) ?_
        exact law_case15 t15 C0 Z hin hR H locs ls hPC hPM hS hl hend
      by_cases c26 : v = (16 : Int32)
      · refine lv_tableIn (tgt := 768) hx hb dL_law_33 (by rw [c26]; decide) (by rw [c26]; decide) (by rw [c26]; rfl) (by decide) ?_
        exact law_case16 t16 C0 Z hin hR H locs ls hPC hPM hS hl hend
      by_cases c27 : v = (17 : Int32)
      · refine lv_tableIn (tgt := 801) hx hb dL_law_33 (by rw [c27]; decide) (by rw [c27]; decide) (by rw [c27]; rfl) (by decide) ?_
        exact law_case17 t17 C0 Z hin hR H locs ls hPC hPM hS hl hend
      by_cases c28 : v = (18 : Int32)
      · refine lv_tableIn (tgt := 844) hx hb dL_law_33 (by rw [c28]; decide) (by rw [c28]; decide) (by rw [c28]; rfl) (by decide) ?_
        exact law_case18 t18 C0 Z hin hR H locs ls hPC hPM hS hl hend
      by_cases c29 : v = (19 : Int32)
      · refine lv_tableIn (tgt := 877) hx hb dL_law_33 (by rw [c29]; decide) (by rw [c29]; decide) (by rw [c29]; rfl) (by decide) ?_
        exact law_case19 t19 C0 Z hin hR H locs ls hPC hPM hS hl hend
      by_cases c30 : v = (20 : Int32)
      · refine lv_tableIn (tgt := 910) hx hb dL_law_33 (by rw [c30]; decide) (by rw [c30]; decide) (by rw [c30]; rfl) (by decide) ?_
        exact law_case20 t20 C0 Z hin hR H locs ls hPC hPM hS hl hend
      by_cases c31 : v = (21 : Int32)
      · refine lv_tableIn (tgt := 953) hx hb dL_law_33 (by rw [c31]; decide) (by rw [c31]; decide) (by rw [c31]; rfl) (by decide) ?_
        exact law_case21 t21 C0 Z hin hR H locs ls hPC hPM hS hl hend
      by_cases c32 : v = (22 : Int32)
      · refine lv_tableIn (tgt := 996) hx hb dL_law_33 (by rw [c32]; decide) (by rw [c32]; decide) (by rw [c32]; rfl) (by decide) ?_
        exact law_case22 t22 C0 Z hin hR H locs ls hPC hPM hS hl hend
      by_cases c33 : v = (23 : Int32)
      · refine lv_tableIn (tgt := 1029) hx hb dL_law_33 (by rw [c33]; decide) (by rw [c33]; decide) (by rw [c33]; rfl) (by decide) ?_
        exact law_case23 t23 C0 Z hin hR H locs ls hPC hPM hS hl hend
      by_cases c34 : v = (24 : Int32)
      · refine lv_tableIn (tgt := 1092) hx hb dL_law_33 (by rw [c34]; decide) (by rw [c34]; decide) (by rw [c34]; rfl) (by decide) ?_
        exact law_case24 t24 C0 Z hin hR H locs ls hPC hPM hS hl hend
      by_cases c35 : v = (25 : Int32)
      · refine lv_tableIn (tgt := 1180) hx hb dL_law_33 (by rw [c35]; decide) (by rw [c35]; decide) (by rw [c35]; rfl) (by decide) ?_
        exact law_case25 t25 C0 Z hin hR H locs ls hPC hPM hS hl hend
      by_cases c36 : v = (26 : Int32)
      · refine lv_tableIn (tgt := 1203) hx hb dL_law_33 (by rw [c36]; decide) (by rw [c36]; decide) (by rw [c36]; rfl) (by decide) ?_
        exact law_case26 t26 C0 Z hin hR H locs ls hPC hPM hS hl hend
      by_cases c37 : v = (27 : Int32)
      · refine lv_tableIn (tgt := 1226) hx hb dL_law_33 (by rw [c37]; decide) (by rw [c37]; decide) (by rw [c37]; rfl) (by decide) ?_
        exact law_case27 t27 C0 Z hin hR H locs ls hPC hPM hS hl hend
      by_cases c38 : v = (28 : Int32)
      · refine lv_tableIn (tgt := 1259) hx hb dL_law_33 (by rw [c38]; decide) (by rw [c38]; decide) (by rw [c38]; rfl) (by decide) ?_
        exact law_case28 t28 C0 Z hin hR H locs ls hPC hPM hS hl hend
      by_cases c39 : v = (29 : Int32)
      · refine lv_tableIn (tgt := 1282) hx hb dL_law_33 (by rw [c39]; decide) (by rw [c39]; decide) (by rw [c39]; rfl) (by decide) ?_
        exact law_case29 t29 C0 Z hin hR H locs ls hPC hPM hS hl hend
      by_cases c40 : v = (30 : Int32)
      · refine lv_tableIn (tgt := 1315) hx hb dL_law_33 (by rw [c40]; decide) (by rw [c40]; decide) (by rw [c40]; rfl) (by decide) ?_
        exact law_case30 t30 C0 Z hin hR H locs ls hPC hPM hS hl hend
      by_cases c41 : v = (31 : Int32)
      · refine lv_tableIn (tgt := 1358) hx hb dL_law_33 (by rw [c41]; decide) (by rw [c41]; decide) (by rw [c41]; rfl) (by decide) ?_
        exact law_case31 t31 C0 Z hin hR H locs ls hPC hPM hS hl hend
      by_cases c42 : v = (32 : Int32)
      · refine lv_tableIn (tgt := 1392) hx hb dL_law_33 (by rw [c42]; decide) (by rw [c42]; decide) (by rw [c42]; rfl) (by decide) ?_
        exact law_case32 t32 C0 Z hin hR H locs ls hPC hPM hS hl hend
      by_cases c43 : v = (33 : Int32)
      · refine lv_tableIn (tgt := 1405) hx hb dL_law_33 (by rw [c43]; decide) (by rw [c43]; decide) (by rw [c43]; rfl) (by decide) ?_
        exact law_case33 t33 C0 Z hin hR H locs ls hPC hPM hS hl hend
      by_cases c44 : v = (34 : Int32)
      · refine lv_tableIn (tgt := 1418) hx hb dL_law_33 (by rw [c44]; decide) (by rw [c44]; decide) (by rw [c44]; rfl) (by decide) ?_
        exact law_case34 t34 C0 Z hin hR H locs ls hPC hPM hS hl hend
      refine lv_tableOut (tgt := 1441) hx hb dL_law_33 (by have := lv_neT (a := 0) c10 rfl; have := lv_neT (a := 1) c11 rfl; have := lv_neT (a := 2) c12 rfl; have := lv_neT (a := 3) c13 rfl; have := lv_neT (a := 4) c14 rfl; have := lv_neT (a := 5) c15 rfl; have := lv_neT (a := 6) c16 rfl; have := lv_neT (a := 7) c17 rfl; have := lv_neT (a := 8) c18 rfl; have := lv_neT (a := 9) c19 rfl; have := lv_neT (a := 10) c20 rfl; have := lv_neT (a := 11) c21 rfl; have := lv_neT (a := 12) c22 rfl; have := lv_neT (a := 13) c23 rfl; have := lv_neT (a := 14) c24 rfl; have := lv_neT (a := 15) c25 rfl; have := lv_neT (a := 16) c26 rfl; have := lv_neT (a := 17) c27 rfl; have := lv_neT (a := 18) c28 rfl; have := lv_neT (a := 19) c29 rfl; have := lv_neT (a := 20) c30 rfl; have := lv_neT (a := 21) c31 rfl; have := lv_neT (a := 22) c32 rfl; have := lv_neT (a := 23) c33 rfl; have := lv_neT (a := 24) c34 rfl; have := lv_neT (a := 25) c35 rfl; have := lv_neT (a := 26) c36 rfl; have := lv_neT (a := 27) c37 rfl; have := lv_neT (a := 28) c38 rfl; have := lv_neT (a := 29) c39 rfl; have := lv_neT (a := 30) c40 rfl; have := lv_neT (a := 31) c41 rfl; have := lv_neT (a := 32) c42 rfl; have := lv_neT (a := 33) c43 rfl; have := lv_neT (a := 34) c44 rfl; omega) (by decide) ?_
      exact hend _ _ _ _ hR hPC hPM hS ls hl
