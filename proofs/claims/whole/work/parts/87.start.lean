def zad41 (h0 q1 q2 q3 q4 q5 q6 q7 q8 q9 q10 q11 q12 q13 q14 q15 q16 q17 q18 q19 q20 q21 q22 q23 q24 q25 q26 q27 q28 q29 q30 q31 q32 q33 q34 q35 q36 q37 q38 q39 q40 : Nat) : Nat → Nat := fun k => match k with
  | 0 => h0
  | 1 => q1
  | 2 => q2
  | 3 => q3
  | 4 => q4
  | 5 => q5
  | 6 => q6
  | 7 => q7
  | 8 => q8
  | 9 => q9
  | 10 => q10
  | 11 => q11
  | 12 => q12
  | 13 => q13
  | 14 => q14
  | 15 => q15
  | 16 => q16
  | 17 => q17
  | 18 => q18
  | 19 => q19
  | 20 => q20
  | 21 => q21
  | 22 => q22
  | 23 => q23
  | 24 => q24
  | 25 => q25
  | 26 => q26
  | 27 => q27
  | 28 => q28
  | 29 => q29
  | 30 => q30
  | 31 => q31
  | 32 => q32
  | 33 => q33
  | 34 => q34
  | 35 => q35
  | 36 => q36
  | 37 => q37
  | 38 => q38
  | 39 => q39
  | _ => q40
def zC0 : ZS := (fun q => match q with
  | 7 => (upd (upd (upd (upd (upd (upd (upd (upd (upd (upd (upd (upd (upd (upd (upd (fun _ => 0) (0 : Int32).toNatClampNeg ((9 : Int32))) (1 : Int32).toNatClampNeg ((9 : Int32))) (2 : Int32).toNatClampNeg ((9 : Int32))) (3 : Int32).toNatClampNeg ((9 : Int32))) (4 : Int32).toNatClampNeg ((9 : Int32))) (5 : Int32).toNatClampNeg ((9 : Int32))) (6 : Int32).toNatClampNeg ((9 : Int32))) (7 : Int32).toNatClampNeg ((9 : Int32))) (8 : Int32).toNatClampNeg ((9 : Int32))) (9 : Int32).toNatClampNeg ((9 : Int32))) (10 : Int32).toNatClampNeg ((9 : Int32))) (11 : Int32).toNatClampNeg ((9 : Int32))) (12 : Int32).toNatClampNeg ((9 : Int32))) (13 : Int32).toNatClampNeg ((9 : Int32))) (14 : Int32).toNatClampNeg ((9 : Int32)))
  | 8 => (upd (upd (upd (upd (upd (upd (upd (upd (upd (upd (upd (upd (upd (upd (upd (fun _ => 0) (0 : Int32).toNatClampNeg ((0 : Int32))) (1 : Int32).toNatClampNeg ((0 : Int32))) (2 : Int32).toNatClampNeg ((1 : Int32))) (3 : Int32).toNatClampNeg ((2 : Int32))) (4 : Int32).toNatClampNeg ((3 : Int32))) (5 : Int32).toNatClampNeg ((0 : Int32))) (6 : Int32).toNatClampNeg ((1 : Int32))) (7 : Int32).toNatClampNeg ((3 : Int32))) (8 : Int32).toNatClampNeg ((1 : Int32))) (9 : Int32).toNatClampNeg ((0 : Int32))) (10 : Int32).toNatClampNeg ((4 : Int32))) (11 : Int32).toNatClampNeg ((2 : Int32))) (12 : Int32).toNatClampNeg ((0 : Int32))) (13 : Int32).toNatClampNeg ((0 : Int32))) (14 : Int32).toNatClampNeg ((0 : Int32)))
  | 16 => (upd (upd (upd (upd (upd (upd (upd (upd (upd (upd (upd (upd (upd (upd (upd (fun _ => 0) (0 : Int32).toNatClampNeg ((9 : Int32))) (1 : Int32).toNatClampNeg ((9 : Int32))) (2 : Int32).toNatClampNeg ((9 : Int32))) (3 : Int32).toNatClampNeg ((9 : Int32))) (4 : Int32).toNatClampNeg ((9 : Int32))) (5 : Int32).toNatClampNeg ((9 : Int32))) (6 : Int32).toNatClampNeg ((9 : Int32))) (7 : Int32).toNatClampNeg ((9 : Int32))) (8 : Int32).toNatClampNeg ((9 : Int32))) (9 : Int32).toNatClampNeg ((9 : Int32))) (10 : Int32).toNatClampNeg ((9 : Int32))) (11 : Int32).toNatClampNeg ((9 : Int32))) (12 : Int32).toNatClampNeg ((9 : Int32))) (13 : Int32).toNatClampNeg ((9 : Int32))) (14 : Int32).toNatClampNeg ((9 : Int32)))
  | 17 => (upd (upd (upd (upd (upd (upd (upd (upd (upd (upd (upd (upd (upd (upd (upd (fun _ => 0) (0 : Int32).toNatClampNeg ((0 : Int32))) (1 : Int32).toNatClampNeg ((0 : Int32))) (2 : Int32).toNatClampNeg ((1 : Int32))) (3 : Int32).toNatClampNeg ((2 : Int32))) (4 : Int32).toNatClampNeg ((3 : Int32))) (5 : Int32).toNatClampNeg ((0 : Int32))) (6 : Int32).toNatClampNeg ((1 : Int32))) (7 : Int32).toNatClampNeg ((3 : Int32))) (8 : Int32).toNatClampNeg ((1 : Int32))) (9 : Int32).toNatClampNeg ((0 : Int32))) (10 : Int32).toNatClampNeg ((4 : Int32))) (11 : Int32).toNatClampNeg ((2 : Int32))) (12 : Int32).toNatClampNeg ((0 : Int32))) (13 : Int32).toNatClampNeg ((0 : Int32))) (14 : Int32).toNatClampNeg ((0 : Int32)))
  | 19 => fun k => match k with | 4 => (zLcl.1 0 4) | _ => 0
  | 20 => (zLcl.1 1)
  | 36 => (upd (upd (upd (upd (fun _ => 0) (0 : Int32).toNatClampNeg ((-1 : Int32))) (1 : Int32).toNatClampNeg ((-1 : Int32))) (2 : Int32).toNatClampNeg ((-1 : Int32))) (3 : Int32).toNatClampNeg ((-1 : Int32)))
  | _ => fun _ => 0, fun q => match q with
  | 19 => fun k => match k with | 3 => (zLcl.2 0 3) | _ => 0
  | 21 => (zLcl.2 2)
  | _ => fun _ => 0)
set_option maxHeartbeats 16000000 in
set_option maxRecDepth 100000 in
theorem zE_start {s : State} {b : Nat} (hts0 : ∀ w ∈ lw_tbl, w.before #[Value.ref b] s = true) (hgv : (Jvm.Cond.and given_1 narrow_1).before #[Value.ref b] s = true) : ∃ adK adV : Nat → Nat, zEC adK adV (fun q : Nat => s.heap.size ≤ q) s s.heap := by
  have hn := flat_of_before _ hgv
  have hA0 : ∀ a : Nat, a < s.heap.size → ¬ (fun q : Nat => s.heap.size ≤ q) a := fun a h => Nat.not_le.mpr h
  have hex : ∀ i : Nat, i < 7 → (Cond.exactly (Term.string RX6 (zSix.getD i 0)) "java/lang/String").before #[Value.ref b] s = true := by
    intro i hi
    rcases (show i = 0 ∨ i = 1 ∨ i = 2 ∨ i = 3 ∨ i = 4 ∨ i = 5 ∨ i = 6 by omega) with rfl | rfl | rfl | rfl | rfl | rfl | rfl
    · exact hn _ (by decide +kernel)
    · exact hn _ (by decide +kernel)
    · exact hn _ (by decide +kernel)
    · exact hn _ (by decide +kernel)
    · exact hn _ (by decide +kernel)
    · exact hn _ (by decide +kernel)
    · exact hn _ (by decide +kernel)
  have hco : ∀ i : Nat, i < 7 → (Cond.eq (.field (Term.string RX6 (zSix.getD i 0)) "java/lang/String" "coder" "B") (.int 0)).before #[Value.ref b] s = true := by
    intro i hi
    rcases (show i = 0 ∨ i = 1 ∨ i = 2 ∨ i = 3 ∨ i = 4 ∨ i = 5 ∨ i = 6 by omega) with rfl | rfl | rfl | rfl | rfl | rfl | rfl
    · exact hn _ (by decide +kernel)
    · exact hn _ (by decide +kernel)
    · exact hn _ (by decide +kernel)
    · exact hn _ (by decide +kernel)
    · exact hn _ (by decide +kernel)
    · exact hn _ (by decide +kernel)
    · exact hn _ (by decide +kernel)
  have har : ∀ i : Nat, i < 7 → (Cond.arrayOf (.field (Term.string RX6 (zSix.getD i 0)) "java/lang/String" "value" "[B") .byte).before #[Value.ref b] s = true := by
    intro i hi
    rcases (show i = 0 ∨ i = 1 ∨ i = 2 ∨ i = 3 ∨ i = 4 ∨ i = 5 ∨ i = 6 by omega) with rfl | rfl | rfl | rfl | rfl | rfl | rfl
    · exact hn _ (by decide +kernel)
    · exact hn _ (by decide +kernel)
    · exact hn _ (by decide +kernel)
    · exact hn _ (by decide +kernel)
    · exact hn _ (by decide +kernel)
    · exact hn _ (by decide +kernel)
    · exact hn _ (by decide +kernel)
  have hle : ∀ i : Nat, i < 7 → (Cond.eq (.length (.field (Term.string RX6 (zSix.getD i 0)) "java/lang/String" "value" "[B")) (.int (Int32.ofNat (zSlen.getD i 0)))).before #[Value.ref b] s = true := by
    intro i hi
    rcases (show i = 0 ∨ i = 1 ∨ i = 2 ∨ i = 3 ∨ i = 4 ∨ i = 5 ∨ i = 6 by omega) with rfl | rfl | rfl | rfl | rfl | rfl | rfl
    · exact hn _ (by decide +kernel)
    · exact hn _ (by decide +kernel)
    · exact hn _ (by decide +kernel)
    · exact hn _ (by decide +kernel)
    · exact hn _ (by decide +kernel)
    · exact hn _ (by decide +kernel)
    · exact hn _ (by decide +kernel)
  have hel : ∀ i : Nat, i < 7 → ∀ j : Nat, j < zSlen.getD i 0 → (Cond.eq (.elem (.field (Term.string RX6 (zSix.getD i 0)) "java/lang/String" "value" "[B") (.int (Int32.ofNat j))) (.int ((zSbyt.getD i []).getD j 0))).before #[Value.ref b] s = true := by
    intro i hi j hj
    rcases (show i = 0 ∨ i = 1 ∨ i = 2 ∨ i = 3 ∨ i = 4 ∨ i = 5 ∨ i = 6 by omega) with rfl | rfl | rfl | rfl | rfl | rfl | rfl
    · have hj : j < 5 := hj
      rcases (show j = 0 ∨ j = 1 ∨ j = 2 ∨ j = 3 ∨ j = 4 by omega) with rfl | rfl | rfl | rfl | rfl
      · exact hn _ (by decide +kernel)
      · exact hn _ (by decide +kernel)
      · exact hn _ (by decide +kernel)
      · exact hn _ (by decide +kernel)
      · exact hn _ (by decide +kernel)
    · have hj : j < 5 := hj
      rcases (show j = 0 ∨ j = 1 ∨ j = 2 ∨ j = 3 ∨ j = 4 by omega) with rfl | rfl | rfl | rfl | rfl
      · exact hn _ (by decide +kernel)
      · exact hn _ (by decide +kernel)
      · exact hn _ (by decide +kernel)
      · exact hn _ (by decide +kernel)
      · exact hn _ (by decide +kernel)
    · have hj : j < 6 := hj
      rcases (show j = 0 ∨ j = 1 ∨ j = 2 ∨ j = 3 ∨ j = 4 ∨ j = 5 by omega) with rfl | rfl | rfl | rfl | rfl | rfl
      · exact hn _ (by decide +kernel)
      · exact hn _ (by decide +kernel)
      · exact hn _ (by decide +kernel)
      · exact hn _ (by decide +kernel)
      · exact hn _ (by decide +kernel)
      · exact hn _ (by decide +kernel)
    · have hj : j < 6 := hj
      rcases (show j = 0 ∨ j = 1 ∨ j = 2 ∨ j = 3 ∨ j = 4 ∨ j = 5 by omega) with rfl | rfl | rfl | rfl | rfl | rfl
      · exact hn _ (by decide +kernel)
      · exact hn _ (by decide +kernel)
      · exact hn _ (by decide +kernel)
      · exact hn _ (by decide +kernel)
      · exact hn _ (by decide +kernel)
      · exact hn _ (by decide +kernel)
    · have hj : j < 4 := hj
      rcases (show j = 0 ∨ j = 1 ∨ j = 2 ∨ j = 3 by omega) with rfl | rfl | rfl | rfl
      · exact hn _ (by decide +kernel)
      · exact hn _ (by decide +kernel)
      · exact hn _ (by decide +kernel)
      · exact hn _ (by decide +kernel)
    · have hj : j < 5 := hj
      rcases (show j = 0 ∨ j = 1 ∨ j = 2 ∨ j = 3 ∨ j = 4 by omega) with rfl | rfl | rfl | rfl | rfl
      · exact hn _ (by decide +kernel)
      · exact hn _ (by decide +kernel)
      · exact hn _ (by decide +kernel)
      · exact hn _ (by decide +kernel)
      · exact hn _ (by decide +kernel)
    · exact absurd hj (Nat.not_lt_zero j)
  have hne : ∀ i j : Nat, i < 7 → j < 7 → i ≠ j → (Cond.not (Cond.eq (Term.string RX6 (zSix.getD i 0)) (Term.string RX6 (zSix.getD j 0)))).before #[Value.ref b] s = true ∨ (Cond.not (Cond.eq (Term.string RX6 (zSix.getD j 0)) (Term.string RX6 (zSix.getD i 0)))).before #[Value.ref b] s = true := by
    intro i j hi hj hij
    rcases (show i = 0 ∨ i = 1 ∨ i = 2 ∨ i = 3 ∨ i = 4 ∨ i = 5 ∨ i = 6 by omega) with rfl | rfl | rfl | rfl | rfl | rfl | rfl <;> rcases (show j = 0 ∨ j = 1 ∨ j = 2 ∨ j = 3 ∨ j = 4 ∨ j = 5 ∨ j = 6 by omega) with rfl | rfl | rfl | rfl | rfl | rfl | rfl
    · exact absurd rfl hij
    · exact Or.inl (hn _ (by decide +kernel))
    · exact Or.inl (hn _ (by decide +kernel))
    · exact Or.inl (hn _ (by decide +kernel))
    · exact Or.inl (hn _ (by decide +kernel))
    · exact Or.inl (hn _ (by decide +kernel))
    · exact Or.inl (hn _ (by decide +kernel))
    · exact Or.inr (hn _ (by decide +kernel))
    · exact absurd rfl hij
    · exact Or.inl (hn _ (by decide +kernel))
    · exact Or.inl (hn _ (by decide +kernel))
    · exact Or.inl (hn _ (by decide +kernel))
    · exact Or.inl (hn _ (by decide +kernel))
    · exact Or.inl (hn _ (by decide +kernel))
    · exact Or.inr (hn _ (by decide +kernel))
    · exact Or.inr (hn _ (by decide +kernel))
    · exact absurd rfl hij
    · exact Or.inl (hn _ (by decide +kernel))
    · exact Or.inl (hn _ (by decide +kernel))
    · exact Or.inl (hn _ (by decide +kernel))
    · exact Or.inl (hn _ (by decide +kernel))
    · exact Or.inr (hn _ (by decide +kernel))
    · exact Or.inr (hn _ (by decide +kernel))
    · exact Or.inr (hn _ (by decide +kernel))
    · exact absurd rfl hij
    · exact Or.inl (hn _ (by decide +kernel))
    · exact Or.inl (hn _ (by decide +kernel))
    · exact Or.inl (hn _ (by decide +kernel))
    · exact Or.inr (hn _ (by decide +kernel))
    · exact Or.inr (hn _ (by decide +kernel))
    · exact Or.inr (hn _ (by decide +kernel))
    · exact Or.inr (hn _ (by decide +kernel))
    · exact absurd rfl hij
    · exact Or.inl (hn _ (by decide +kernel))
    · exact Or.inl (hn _ (by decide +kernel))
    · exact Or.inr (hn _ (by decide +kernel))
    · exact Or.inr (hn _ (by decide +kernel))
    · exact Or.inr (hn _ (by decide +kernel))
    · exact Or.inr (hn _ (by decide +kernel))
    · exact Or.inr (hn _ (by decide +kernel))
    · exact absurd rfl hij
    · exact Or.inl (hn _ (by decide +kernel))
    · exact Or.inr (hn _ (by decide +kernel))
    · exact Or.inr (hn _ (by decide +kernel))
    · exact Or.inr (hn _ (by decide +kernel))
    · exact Or.inr (hn _ (by decide +kernel))
    · exact Or.inr (hn _ (by decide +kernel))
    · exact Or.inr (hn _ (by decide +kernel))
    · exact absurd rfl hij
  obtain ⟨adK, adV, hS, hev⟩ := vk_Sof (args := #[Value.ref b]) (s := s) (N := 7) (tm := fun i => Term.string RX6 (zSix.getD i 0)) (len := zSlen) (byt := zSbyt) (A := fun q : Nat => s.heap.size ≤ q) zSlen_lt hex hco har hle hel hne hA0
  refine ⟨adK, adV, fun q hq => va_Nw.of rfl (hts0 _ ((show ∀ q ∈ zNests, Cond.methodLinkNest q.1 q.2.1 q.2.2 RX6 ∈ lw_tbl by decide +kernel) q hq)), hS, ?_, ?_, ?_⟩
  · intro i hi
    have h1 := hev i hi
    rcases (show i = 0 ∨ i = 1 ∨ i = 2 ∨ i = 3 ∨ i = 4 ∨ i = 5 ∨ i = 6 by omega) with rfl | rfl | rfl | rfl | rfl | rfl | rfl
    · exact vk_R.of (hts0 _ (by decide +kernel)) h1
    · exact vk_R.of (hts0 _ (by decide +kernel)) h1
    · exact vk_R.of (hts0 _ (by decide +kernel)) h1
    · exact vk_R.of (hts0 _ (by decide +kernel)) h1
    · exact vk_R.of (hts0 _ (by decide +kernel)) h1
    · exact vk_R.of (hts0 _ (by decide +kernel)) h1
    · exact vk_R.of (hts0 _ (by decide +kernel)) h1
  · exact va_Zof (args := #[Value.ref b]) (hts0 (.laysStatic "java/lang/String" "COMPACT_STRINGS" "Z") (by decide +kernel)) (hts0 (.initialized "java/lang/String") (by decide +kernel)) (va_eqt (hn (.eq (.static "java/lang/String" "COMPACT_STRINGS" "Z") (.int 1)) (by decide +kernel))) hA0
  · exact va_Zqof (args := #[Value.ref b]) (hts0 (.laysStatic "jdk/internal/util/Preconditions" "SIOOBE_FORMATTER" "Ljava/util/function/BiFunction;") (by decide +kernel)) (hts0 (.initialized "jdk/internal/util/Preconditions") (by decide +kernel)) (hn _ (by decide +kernel)) hA0
set_option maxHeartbeats 16000000 in
set_option maxRecDepth 100000 in
theorem zK_start {s : State} {b : Nat} (hts0 : ∀ w ∈ lw_tbl, w.before #[Value.ref b] s = true) : ∃ (D : va_G) (cI cJ cC : ClassId), va_K D vwCl [(cI, .int), (cJ, .long), (cC, .char)] s := by
  obtain ⟨cX0, iX0, kX0⟩ := u_known (C := RX0) (T := TX0) (N := 5) (n := 5) hts0 inX0 (hts0 (.instantiable RX0 5) (by decide +kernel))
  obtain ⟨cX1, iX1, kX1⟩ := u_known (C := RX1) (T := TX1) (N := 2) (n := 2) hts0 inX1 (hts0 (.instantiable RX1 2) (by decide +kernel))
  obtain ⟨cX2, iX2, kX2⟩ := u_known (C := RX2) (T := TX2) (N := 2) (n := 2) hts0 inX2 (hts0 (.instantiable RX2 2) (by decide +kernel))
  obtain ⟨cX3, iX3, kX3⟩ := u_known (C := RX3) (T := TX3) (N := 10) (n := 10) hts0 inX3 (hts0 (.instantiable RX3 10) (by decide +kernel))
  obtain ⟨cX4, iX4, kX4⟩ := u_known (C := RX4) (T := TX4) (N := 9) (n := 9) hts0 inX4 (hts0 (.instantiable RX4 9) (by decide +kernel))
  obtain ⟨cX5, iX5, kX5⟩ := u_known (C := RX5) (T := TX5) (N := 8) (n := 8) hts0 inX5 (hts0 (.instantiable RX5 8) (by decide +kernel))
  obtain ⟨cX6, iX6, kX6⟩ := u_known (C := RX6) (T := TX6) (N := 12) (n := 12) hts0 inX6 (hts0 (.instantiable RX6 12) (by decide +kernel))
  obtain ⟨cX7, iX7, kX7⟩ := u_known (C := RX7) (T := TX7) (N := 26) (n := 26) hts0 inX7 (hts0 (.instantiable RX7 26) (by decide +kernel))
  obtain ⟨cI, kI, pI, nI9, hkI, hdI⟩ := Cond.arrayClass_spec (hts0 (.arrayClass .int) (by decide +kernel))
  obtain ⟨cJ, kJ, pJ, nJ9, hkJ, hdJ⟩ := Cond.arrayClass_spec (hts0 (.arrayClass .long) (by decide +kernel))
  obtain ⟨cC, kC, pC, nC9, hkC, hdC⟩ := Cond.arrayClass_spec (hts0 (.arrayClass .char) (by decide +kernel))
  refine ⟨(fun k => if k = 0 then cX0 else if k = 1 then cX1 else if k = 2 then cX2 else if k = 3 then cX3 else if k = 4 then cX4 else if k = 5 then cX5 else if k = 6 then cX6 else cX7, fun k => if k = 0 then iX0 else if k = 1 then iX1 else if k = 2 then iX2 else if k = 3 then iX3 else if k = 4 then iX4 else if k = 5 then iX5 else if k = 6 then iX6 else iX7), cI, cJ, cC, ⟨?_, ?_⟩⟩
  · intro k q hq
    match k, hq with
    | 0, hq => cases hq; exact kX0
    | 1, hq => cases hq; exact kX1
    | 2, hq => cases hq; exact kX2
    | 3, hq => cases hq; exact kX3
    | 4, hq => cases hq; exact kX4
    | 5, hq => cases hq; exact kX5
    | 6, hq => cases hq; exact kX6
    | 7, hq => cases hq; exact kX7
    | k + 8, hq => simp [vwCl] at hq
  · intro k q hq
    match k, hq with
    | 0, hq => cases hq; exact ⟨fun n z => ⟨fun k h => (by cases h), kI, hkI, pI, hdI⟩, nI9⟩
    | 1, hq => cases hq; exact ⟨fun n z => ⟨fun k h => (by cases h), kJ, hkJ, pJ, hdJ⟩, nJ9⟩
    | 2, hq => cases hq; exact ⟨fun n z => ⟨fun k h => (by cases h), kC, hkC, pC, hdC⟩, nC9⟩
    | k + 3, hq => simp at hq
set_option maxHeartbeats 16000000 in
set_option maxRecDepth 100000 in
theorem whole_startR {R : ZS → ZS → Prop} (hsteps : zSteps R) (hR0 : R zC0 zM0) {p : Program} {e : Env} {s : State} {m : MethodId} {below : List Frame} {meth : Method} {c : Code} (l : Launch) {b L : Nat} {xs : Nat → Int32} (hL : L ≤ 4096) (C0 : lw_At p s m meth c b L xs) : W p l e room_1 s m #[Value.ref b] below meth c s.heap [] 0 0 (lw_Z below #[Value.ref b] s) (entryFrame m ([Value.ref b] : List Value).toArray 4) := by
  obtain ⟨hx, hb, hr, hml, hown, hts0, hX, hbl, hlocks, hgv⟩ := id C0
  have hts : ∀ w ∈ wsL_law, w.before #[Value.ref b] s = true := fun w h => hts0 w (wsL_law_in w h)
  have hown : s.vm.findClass RL = some m.cls := hown
  have hA : ∀ q : Nat, s.heap.size ≤ q → (fun q : Nat => s.heap.size ≤ q) q := fun _ h => h
  obtain ⟨D, cI, cJ, cC, hK⟩ := zK_start hts0
  obtain ⟨adK, adV, hE⟩ := zE_start hts0 hgv
  have hS : va_S (fun q : Nat => s.heap.size ≤ q) s.heap s.heap [] := va_S.rf
  have hP : va_P D vwCl [] s.heap := fun k q h => by simp at h
  have hD : va_D (fun q : Nat => s.heap.size ≤ q) [] := ⟨fun i j p q h => by simp at h, fun k q h => by simp at h⟩
  have hl := lv_entry ([.ref b]) (n := 4) (Nat.le_of_ble_eq_true rfl)
  rw [lg_entry_eq]
  generalize (lg_sl ([.ref b]) ++ List.replicate (4 - (lg_sl ([.ref b])).length) Slot.unset).toArray = ls at hl ⊢
  have hl : lv_has ls 4 [(0, .ref b)] := hl
  have inlX6 : ∀ w ∈ u_ws RX6 TX6 12, w ∈ wsL_law := by decide +kernel
  have inlX7 : ∀ w ∈ u_ws RX7 TX7 26, w ∈ wsL_law := by decide +kernel
  refine va_new (ci := 6) (fs := [.null, .null, .int 0, .null, .null, .null, .null, .null, .null, .null, .null, .null]) (C := RX6) (T := TX6) (N := 12) hx hb hts inlX6 tyX6 tyX6_ok hown (hts (.classLink RL 7 RX6) (by decide +kernel)) (hts (.instantiable RX6 12) (by decide +kernel)) (hts (.initialized RX6) (by decide +kernel)) hK hP hD hS hA rfl (fun j hj => by rcases (show j = 0 ∨ j = 1 ∨ j = 2 ∨ j = 3 ∨ j = 4 ∨ j = 5 ∨ j = 6 ∨ j = 7 ∨ j = 8 ∨ j = 9 ∨ j = 10 ∨ j = 11 by omega) with rfl | rfl | rfl | rfl | rfl | rfl | rfl | rfl | rfl | rfl | rfl | rfl <;> rfl) (Nat.le_of_ble_eq_true rfl) (Nat.le_of_ble_eq_true rfl) dL_law_0 (fun h0 H hP hD hS => ?_)
  have hP : va_P D vwCl [(h0, .inr (6, [.null, .null, .int 0, .null, .null, .null, .null, .null, .null, .null, .null, .null]))] H := hP
  have hD : va_D (fun q : Nat => s.heap.size ≤ q) [(h0, .inr (6, [.null, .null, .int 0, .null, .null, .null, .null, .null, .null, .null, .null, .null]))] := hD
  refine W.widen (k := 1) (n := 12) (by omega) (by omega) ?_
  refine lv_dup hx hb dL_law_3 rfl ?_
  have hPc := hP.sub (ws' := [(h0, .inr (6, [.null, .null, .int 0, .null, .null, .null, .null, .null, .null, .null, .null, .null]))]) [0] rfl
  have hDc := hD.sub (ws' := [(h0, .inr (6, [.null, .null, .int 0, .null, .null, .null, .null, .null, .null, .null, .null, .null]))]) [0] (by decide) rfl
  have hFc := va_free (wc := [(h0, .inr (6, [.null, .null, .int 0, .null, .null, .null, .null, .null, .null, .null, .null, .null]))]) hD hS hA [0] rfl
  refine va_callv (va_runI (As := []) (rest := [.ref h0]) ⟨hx, hb, hml, hown, hts⟩ (kX6_init l D cI cJ cC h0 H.size) (cwI 0 hts gL_law_X6_init rfl rfl rfl (hts (.initialized RX6) (by decide +kernel)) (hts (.methodLink RL 9 yX6_init) (by decide +kernel)) (hts (.instanceMethod yX6_init) (by decide +kernel)) rfl (by decide +kernel) ⟨Nat.le_of_ble_eq_true rfl, Nat.le_of_ble_eq_true rfl⟩) ⟨fun b U g mk q => by obtain ⟨q0, q1, qP, qK, qD⟩ := q; exact ⟨q0, q1, qP, va_K.moved (u := U) (U := U.calling g mk b) (Vm.Alike.refl U.vm) qK, qD⟩, fun U hU hW => ⟨rfl, by rw [hU], by rw [hU]; exact hPc, va_K.moved hW.alike hK, hDc.weaken (fun _ _ _ _ => trivial)⟩⟩ rfl rfl hl.1 rfl (lv_room (Nat.le_of_ble_eq_true rfl)) dL_law_4 ⟨Nat.le_of_ble_eq_true rfl, Nat.le_of_ble_eq_true rfl⟩) hS (fun q _ h => hFc q h) hFc (fun u t H1 locs ht hvm hw hB hz1 hk1 hS => ?_)
  obtain ⟨q1, q2, q3, q4, q5, q6, q7, q8, q9, q10, q11, q12, q13, q14, q15, q16, q17, q18, q19, q20, q21, q22, q23, q24, q25, q26, q27, q28, q29, q30, q31, q32, q33, q34, q35, q36, q37, q38, q39, q40, hP1, hK1, hD1⟩ := hB
  rw [ht] at hP1
  generalize H1 = H at hP1 hS ⊢
  have hP := hP1.sub (ws' := [(h0, .inr (6, [.ref q1, .ref q10, .int 0, .ref q19, .ref q22, .ref q26, .ref q32, .ref q34, .ref q37, .ref q38, .ref q39, .ref q40])), (q1, .inr (3, [.int 0, .ref q2, .ref q3, .ref q4, .int 0, .ref q5, .ref q6, .ref q7, .ref q8, .ref q9])), (q2, .inl (cI, 8, .inl (fun _ => 0))), (q3, .inl (cI, 8, .inl (fun _ => 0))), (q4, .inl (cI, 40, .inl (fun _ => 0))), (q5, .inl (cI, 6, .inl (fun _ => 0))), (q6, .inl (cI, 36, .inl (fun _ => 0))), (q7, .inl (cI, 15, .inl (upd (upd (upd (upd (upd (upd (upd (upd (upd (upd (upd (upd (upd (upd (upd (fun _ => 0) (0 : Int32).toNatClampNeg ((9 : Int32))) (1 : Int32).toNatClampNeg ((9 : Int32))) (2 : Int32).toNatClampNeg ((9 : Int32))) (3 : Int32).toNatClampNeg ((9 : Int32))) (4 : Int32).toNatClampNeg ((9 : Int32))) (5 : Int32).toNatClampNeg ((9 : Int32))) (6 : Int32).toNatClampNeg ((9 : Int32))) (7 : Int32).toNatClampNeg ((9 : Int32))) (8 : Int32).toNatClampNeg ((9 : Int32))) (9 : Int32).toNatClampNeg ((9 : Int32))) (10 : Int32).toNatClampNeg ((9 : Int32))) (11 : Int32).toNatClampNeg ((9 : Int32))) (12 : Int32).toNatClampNeg ((9 : Int32))) (13 : Int32).toNatClampNeg ((9 : Int32))) (14 : Int32).toNatClampNeg ((9 : Int32))))), (q8, .inl (cI, 15, .inl (upd (upd (upd (upd (upd (upd (upd (upd (upd (upd (upd (upd (upd (upd (upd (fun _ => 0) (0 : Int32).toNatClampNeg ((0 : Int32))) (1 : Int32).toNatClampNeg ((0 : Int32))) (2 : Int32).toNatClampNeg ((1 : Int32))) (3 : Int32).toNatClampNeg ((2 : Int32))) (4 : Int32).toNatClampNeg ((3 : Int32))) (5 : Int32).toNatClampNeg ((0 : Int32))) (6 : Int32).toNatClampNeg ((1 : Int32))) (7 : Int32).toNatClampNeg ((3 : Int32))) (8 : Int32).toNatClampNeg ((1 : Int32))) (9 : Int32).toNatClampNeg ((0 : Int32))) (10 : Int32).toNatClampNeg ((4 : Int32))) (11 : Int32).toNatClampNeg ((2 : Int32))) (12 : Int32).toNatClampNeg ((0 : Int32))) (13 : Int32).toNatClampNeg ((0 : Int32))) (14 : Int32).toNatClampNeg ((0 : Int32))))), (q9, .inl (cI, 3, .inl (fun _ => 0))), (q10, .inr (3, [.int 0, .ref q11, .ref q12, .ref q13, .int 0, .ref q14, .ref q15, .ref q16, .ref q17, .ref q18])), (q11, .inl (cI, 8, .inl (fun _ => 0))), (q12, .inl (cI, 8, .inl (fun _ => 0))), (q13, .inl (cI, 40, .inl (fun _ => 0))), (q14, .inl (cI, 6, .inl (fun _ => 0))), (q15, .inl (cI, 36, .inl (fun _ => 0))), (q16, .inl (cI, 15, .inl (upd (upd (upd (upd (upd (upd (upd (upd (upd (upd (upd (upd (upd (upd (upd (fun _ => 0) (0 : Int32).toNatClampNeg ((9 : Int32))) (1 : Int32).toNatClampNeg ((9 : Int32))) (2 : Int32).toNatClampNeg ((9 : Int32))) (3 : Int32).toNatClampNeg ((9 : Int32))) (4 : Int32).toNatClampNeg ((9 : Int32))) (5 : Int32).toNatClampNeg ((9 : Int32))) (6 : Int32).toNatClampNeg ((9 : Int32))) (7 : Int32).toNatClampNeg ((9 : Int32))) (8 : Int32).toNatClampNeg ((9 : Int32))) (9 : Int32).toNatClampNeg ((9 : Int32))) (10 : Int32).toNatClampNeg ((9 : Int32))) (11 : Int32).toNatClampNeg ((9 : Int32))) (12 : Int32).toNatClampNeg ((9 : Int32))) (13 : Int32).toNatClampNeg ((9 : Int32))) (14 : Int32).toNatClampNeg ((9 : Int32))))), (q17, .inl (cI, 15, .inl (upd (upd (upd (upd (upd (upd (upd (upd (upd (upd (upd (upd (upd (upd (upd (fun _ => 0) (0 : Int32).toNatClampNeg ((0 : Int32))) (1 : Int32).toNatClampNeg ((0 : Int32))) (2 : Int32).toNatClampNeg ((1 : Int32))) (3 : Int32).toNatClampNeg ((2 : Int32))) (4 : Int32).toNatClampNeg ((3 : Int32))) (5 : Int32).toNatClampNeg ((0 : Int32))) (6 : Int32).toNatClampNeg ((1 : Int32))) (7 : Int32).toNatClampNeg ((3 : Int32))) (8 : Int32).toNatClampNeg ((1 : Int32))) (9 : Int32).toNatClampNeg ((0 : Int32))) (10 : Int32).toNatClampNeg ((4 : Int32))) (11 : Int32).toNatClampNeg ((2 : Int32))) (12 : Int32).toNatClampNeg ((0 : Int32))) (13 : Int32).toNatClampNeg ((0 : Int32))) (14 : Int32).toNatClampNeg ((0 : Int32))))), (q18, .inl (cI, 3, .inl (fun _ => 0))), (q19, .inr (0, [.ref q1, .ref q20, .ref q21, .long (zLcl.2 0 3), .int (zLcl.1 0 4)])), (q20, .inl (cI, 40, .inl (zLcl.1 1))), (q21, .inl (cJ, 5, .inr (.inl (zLcl.2 2)))), (q22, .inr (5, [.ref q1, .ref q19, .ref q23, .ref q24, .ref q25, .int 0, .int 0, .int 0])), (q23, .inl (cI, 4, .inl (fun _ => 0))), (q24, .inl (cI, 4, .inl (fun _ => 0))), (q25, .inl (cI, 3, .inl (fun _ => 0))), (q26, .inr (4, [.ref q27, .int 0, .int 0, .ref q28, .ref q29, .ref q30, .int 0, .ref q31, .int 0])), (q27, .inl (cI, 80, .inl (fun _ => 0))), (q28, .inl (cI, 8, .inl (fun _ => 0))), (q29, .inl (cI, 8, .inl (fun _ => 0))), (q30, .inl (cI, 40, .inl (fun _ => 0))), (q31, .inl (cI, 6, .inl (fun _ => 0))), (q32, .inr (2, [.ref q33, .int 0])), (q33, .inl (cI, 47, .inl (fun _ => 0))), (q34, .inr (1, [.ref q35, .ref q36])), (q35, .inl (cI, 72, .inl (fun _ => 0))), (q36, .inl (cI, 4, .inl (upd (upd (upd (upd (fun _ => 0) (0 : Int32).toNatClampNeg ((-1 : Int32))) (1 : Int32).toNatClampNeg ((-1 : Int32))) (2 : Int32).toNatClampNeg ((-1 : Int32))) (3 : Int32).toNatClampNeg ((-1 : Int32))))), (q37, .inl (cI, 3, .inl (fun _ => 0))), (q38, .inl (cI, 3, .inl (fun _ => 0))), (q39, .inl (cJ, 3, .inr (.inl (fun _ => 0)))), (q40, .inl (cJ, 3, .inr (.inl (fun _ => 0))))]) [0, 1, 2, 3, 4, 5, 6, 7, 8, 9, 10, 11, 12, 13, 14, 15, 16, 17, 18, 19, 20, 21, 22, 23, 24, 25, 26, 27, 28, 29, 30, 31, 32, 33, 34, 35, 36, 37, 38, 39, 40] rfl
  have hD := (hD1.sub (ws' := [(h0, .inr (6, [.ref q1, .ref q10, .int 0, .ref q19, .ref q22, .ref q26, .ref q32, .ref q34, .ref q37, .ref q38, .ref q39, .ref q40])), (q1, .inr (3, [.int 0, .ref q2, .ref q3, .ref q4, .int 0, .ref q5, .ref q6, .ref q7, .ref q8, .ref q9])), (q2, .inl (cI, 8, .inl (fun _ => 0))), (q3, .inl (cI, 8, .inl (fun _ => 0))), (q4, .inl (cI, 40, .inl (fun _ => 0))), (q5, .inl (cI, 6, .inl (fun _ => 0))), (q6, .inl (cI, 36, .inl (fun _ => 0))), (q7, .inl (cI, 15, .inl (upd (upd (upd (upd (upd (upd (upd (upd (upd (upd (upd (upd (upd (upd (upd (fun _ => 0) (0 : Int32).toNatClampNeg ((9 : Int32))) (1 : Int32).toNatClampNeg ((9 : Int32))) (2 : Int32).toNatClampNeg ((9 : Int32))) (3 : Int32).toNatClampNeg ((9 : Int32))) (4 : Int32).toNatClampNeg ((9 : Int32))) (5 : Int32).toNatClampNeg ((9 : Int32))) (6 : Int32).toNatClampNeg ((9 : Int32))) (7 : Int32).toNatClampNeg ((9 : Int32))) (8 : Int32).toNatClampNeg ((9 : Int32))) (9 : Int32).toNatClampNeg ((9 : Int32))) (10 : Int32).toNatClampNeg ((9 : Int32))) (11 : Int32).toNatClampNeg ((9 : Int32))) (12 : Int32).toNatClampNeg ((9 : Int32))) (13 : Int32).toNatClampNeg ((9 : Int32))) (14 : Int32).toNatClampNeg ((9 : Int32))))), (q8, .inl (cI, 15, .inl (upd (upd (upd (upd (upd (upd (upd (upd (upd (upd (upd (upd (upd (upd (upd (fun _ => 0) (0 : Int32).toNatClampNeg ((0 : Int32))) (1 : Int32).toNatClampNeg ((0 : Int32))) (2 : Int32).toNatClampNeg ((1 : Int32))) (3 : Int32).toNatClampNeg ((2 : Int32))) (4 : Int32).toNatClampNeg ((3 : Int32))) (5 : Int32).toNatClampNeg ((0 : Int32))) (6 : Int32).toNatClampNeg ((1 : Int32))) (7 : Int32).toNatClampNeg ((3 : Int32))) (8 : Int32).toNatClampNeg ((1 : Int32))) (9 : Int32).toNatClampNeg ((0 : Int32))) (10 : Int32).toNatClampNeg ((4 : Int32))) (11 : Int32).toNatClampNeg ((2 : Int32))) (12 : Int32).toNatClampNeg ((0 : Int32))) (13 : Int32).toNatClampNeg ((0 : Int32))) (14 : Int32).toNatClampNeg ((0 : Int32))))), (q9, .inl (cI, 3, .inl (fun _ => 0))), (q10, .inr (3, [.int 0, .ref q11, .ref q12, .ref q13, .int 0, .ref q14, .ref q15, .ref q16, .ref q17, .ref q18])), (q11, .inl (cI, 8, .inl (fun _ => 0))), (q12, .inl (cI, 8, .inl (fun _ => 0))), (q13, .inl (cI, 40, .inl (fun _ => 0))), (q14, .inl (cI, 6, .inl (fun _ => 0))), (q15, .inl (cI, 36, .inl (fun _ => 0))), (q16, .inl (cI, 15, .inl (upd (upd (upd (upd (upd (upd (upd (upd (upd (upd (upd (upd (upd (upd (upd (fun _ => 0) (0 : Int32).toNatClampNeg ((9 : Int32))) (1 : Int32).toNatClampNeg ((9 : Int32))) (2 : Int32).toNatClampNeg ((9 : Int32))) (3 : Int32).toNatClampNeg ((9 : Int32))) (4 : Int32).toNatClampNeg ((9 : Int32))) (5 : Int32).toNatClampNeg ((9 : Int32))) (6 : Int32).toNatClampNeg ((9 : Int32))) (7 : Int32).toNatClampNeg ((9 : Int32))) (8 : Int32).toNatClampNeg ((9 : Int32))) (9 : Int32).toNatClampNeg ((9 : Int32))) (10 : Int32).toNatClampNeg ((9 : Int32))) (11 : Int32).toNatClampNeg ((9 : Int32))) (12 : Int32).toNatClampNeg ((9 : Int32))) (13 : Int32).toNatClampNeg ((9 : Int32))) (14 : Int32).toNatClampNeg ((9 : Int32))))), (q17, .inl (cI, 15, .inl (upd (upd (upd (upd (upd (upd (upd (upd (upd (upd (upd (upd (upd (upd (upd (fun _ => 0) (0 : Int32).toNatClampNeg ((0 : Int32))) (1 : Int32).toNatClampNeg ((0 : Int32))) (2 : Int32).toNatClampNeg ((1 : Int32))) (3 : Int32).toNatClampNeg ((2 : Int32))) (4 : Int32).toNatClampNeg ((3 : Int32))) (5 : Int32).toNatClampNeg ((0 : Int32))) (6 : Int32).toNatClampNeg ((1 : Int32))) (7 : Int32).toNatClampNeg ((3 : Int32))) (8 : Int32).toNatClampNeg ((1 : Int32))) (9 : Int32).toNatClampNeg ((0 : Int32))) (10 : Int32).toNatClampNeg ((4 : Int32))) (11 : Int32).toNatClampNeg ((2 : Int32))) (12 : Int32).toNatClampNeg ((0 : Int32))) (13 : Int32).toNatClampNeg ((0 : Int32))) (14 : Int32).toNatClampNeg ((0 : Int32))))), (q18, .inl (cI, 3, .inl (fun _ => 0))), (q19, .inr (0, [.ref q1, .ref q20, .ref q21, .long (zLcl.2 0 3), .int (zLcl.1 0 4)])), (q20, .inl (cI, 40, .inl (zLcl.1 1))), (q21, .inl (cJ, 5, .inr (.inl (zLcl.2 2)))), (q22, .inr (5, [.ref q1, .ref q19, .ref q23, .ref q24, .ref q25, .int 0, .int 0, .int 0])), (q23, .inl (cI, 4, .inl (fun _ => 0))), (q24, .inl (cI, 4, .inl (fun _ => 0))), (q25, .inl (cI, 3, .inl (fun _ => 0))), (q26, .inr (4, [.ref q27, .int 0, .int 0, .ref q28, .ref q29, .ref q30, .int 0, .ref q31, .int 0])), (q27, .inl (cI, 80, .inl (fun _ => 0))), (q28, .inl (cI, 8, .inl (fun _ => 0))), (q29, .inl (cI, 8, .inl (fun _ => 0))), (q30, .inl (cI, 40, .inl (fun _ => 0))), (q31, .inl (cI, 6, .inl (fun _ => 0))), (q32, .inr (2, [.ref q33, .int 0])), (q33, .inl (cI, 47, .inl (fun _ => 0))), (q34, .inr (1, [.ref q35, .ref q36])), (q35, .inl (cI, 72, .inl (fun _ => 0))), (q36, .inl (cI, 4, .inl (upd (upd (upd (upd (fun _ => 0) (0 : Int32).toNatClampNeg ((-1 : Int32))) (1 : Int32).toNatClampNeg ((-1 : Int32))) (2 : Int32).toNatClampNeg ((-1 : Int32))) (3 : Int32).toNatClampNeg ((-1 : Int32))))), (q37, .inl (cI, 3, .inl (fun _ => 0))), (q38, .inl (cI, 3, .inl (fun _ => 0))), (q39, .inl (cJ, 3, .inr (.inl (fun _ => 0)))), (q40, .inl (cJ, 3, .inr (.inl (fun _ => 0))))]) [0, 1, 2, 3, 4, 5, 6, 7, 8, 9, 10, 11, 12, 13, 14, 15, 16, 17, 18, 19, 20, 21, 22, 23, 24, 25, 26, 27, 28, 29, 30, 31, 32, 33, 34, 35, 36, 37, 38, 39, 40] (by decide) rfl).weaken (fun _ q _ h => hFc q.1 h)
  have hP : va_P D vwCl (zW (zcC (zad41 h0 q1 q2 q3 q4 q5 q6 q7 q8 q9 q10 q11 q12 q13 q14 q15 q16 q17 q18 q19 q20 q21 q22 q23 q24 q25 q26 q27 q28 q29 q30 q31 q32 q33 q34 q35 q36 q37 q38 q39 q40) cI cJ cC) 41 (zad41 h0 q1 q2 q3 q4 q5 q6 q7 q8 q9 q10 q11 q12 q13 q14 q15 q16 q17 q18 q19 q20 q21 q22 q23 q24 q25 q26 q27 q28 q29 q30 q31 q32 q33 q34 q35 q36 q37 q38 q39 q40) zC0) H := hP
  have hD : va_D (fun q : Nat => s.heap.size ≤ q) (zW (zcC (zad41 h0 q1 q2 q3 q4 q5 q6 q7 q8 q9 q10 q11 q12 q13 q14 q15 q16 q17 q18 q19 q20 q21 q22 q23 q24 q25 q26 q27 q28 q29 q30 q31 q32 q33 q34 q35 q36 q37 q38 q39 q40) cI cJ cC) 41 (zad41 h0 q1 q2 q3 q4 q5 q6 q7 q8 q9 q10 q11 q12 q13 q14 q15 q16 q17 q18 q19 q20 q21 q22 q23 q24 q25 q26 q27 q28 q29 q30 q31 q32 q33 q34 q35 q36 q37 q38 q39 q40) zC0) := hD
  generalize haC : (zad41 h0 q1 q2 q3 q4 q5 q6 q7 q8 q9 q10 q11 q12 q13 q14 q15 q16 q17 q18 q19 q20 q21 q22 q23 q24 q25 q26 q27 q28 q29 q30 q31 q32 q33 q34 q35 q36 q37 q38 q39 q40) = aC at hP hD
  have h00 : aC 0 = h0 := by rw [← haC]; rfl
  refine W.widen (k := 41) (n := 653) (by omega) (by omega) ?_
  refine lv_astore_n (lv' := [(1, .ref h0), (0, .ref b)]) hx hb dL_law_7 rfl hl (by decide) rfl (fun ls hl => ?_)
  refine va_new (ci := 7) (fs := [.null, .null, .int 0, .null, .long 0, .null, .null, .null, .int 0, .int 0, .int 0, .int 0, .null, .null, .null, .null, .null, .null, .null, .int 0, .int 0, .int 0, .null, .int 0, .null, .null]) (C := RX7) (T := TX7) (N := 26) hx hb hts inlX7 tyX7 tyX7_ok hown (hts (.classLink RL 10 RX7) (by decide +kernel)) (hts (.instantiable RX7 26) (by decide +kernel)) (hts (.initialized RX7) (by decide +kernel)) hK hP hD hS hA rfl (fun j hj => by rcases (show j = 0 ∨ j = 1 ∨ j = 2 ∨ j = 3 ∨ j = 4 ∨ j = 5 ∨ j = 6 ∨ j = 7 ∨ j = 8 ∨ j = 9 ∨ j = 10 ∨ j = 11 ∨ j = 12 ∨ j = 13 ∨ j = 14 ∨ j = 15 ∨ j = 16 ∨ j = 17 ∨ j = 18 ∨ j = 19 ∨ j = 20 ∨ j = 21 ∨ j = 22 ∨ j = 23 ∨ j = 24 ∨ j = 25 by omega) with rfl | rfl | rfl | rfl | rfl | rfl | rfl | rfl | rfl | rfl | rfl | rfl | rfl | rfl | rfl | rfl | rfl | rfl | rfl | rfl | rfl | rfl | rfl | rfl | rfl | rfl <;> rfl) (Nat.le_of_ble_eq_true rfl) (Nat.le_of_ble_eq_true rfl) dL_law_8 (fun m0 H hP hD hS => ?_)
  refine W.widen (k := 42) (n := 679) (by omega) (by omega) ?_
  refine lv_dup hx hb dL_law_11 rfl ?_
  have h41 : (zW (zcC aC cI cJ cC) 41 aC zC0 ++ [(m0, .inr (7, [.null, .null, .int 0, .null, .long 0, .null, .null, .null, .int 0, .int 0, .int 0, .int 0, .null, .null, .null, .null, .null, .null, .null, .int 0, .int 0, .int 0, .null, .int 0, .null, .null]))] : va_W)[41]? = some (m0, .inr (7, [.null, .null, .int 0, .null, .long 0, .null, .null, .null, .int 0, .int 0, .int 0, .int 0, .null, .null, .null, .null, .null, .null, .null, .int 0, .int 0, .int 0, .null, .int 0, .null, .null])) := by rw [List.getElem?_append_right (by simp [zW])]; simp [zW]
  have hPc : va_P D vwCl [(m0, .inr (7, [.null, .null, .int 0, .null, .long 0, .null, .null, .null, .int 0, .int 0, .int 0, .int 0, .null, .null, .null, .null, .null, .null, .null, .int 0, .int 0, .int 0, .null, .int 0, .null, .null]))] H := fun k q hk => by
    match k, hk with
    | 0, hk => cases hk; exact hP 41 _ h41
    | k + 1, hk => simp at hk
  have hDc : va_D (fun q : Nat => s.heap.size ≤ q) [(m0, .inr (7, [.null, .null, .int 0, .null, .long 0, .null, .null, .null, .int 0, .int 0, .int 0, .int 0, .null, .null, .null, .null, .null, .null, .null, .int 0, .int 0, .int 0, .null, .int 0, .null, .null]))] := ⟨fun i j p q hi hj _ => by
    have h1 : i < 1 := (List.getElem?_eq_some_iff.mp hi).1
    have h2 : j < 1 := (List.getElem?_eq_some_iff.mp hj).1
    omega, fun k q hk => by
    match k, hk with
    | 0, hk => cases hk; exact hD.2 41 _ h41
    | k + 1, hk => simp at hk⟩
  have hFc : ∀ q, va_A [(m0, .inr (7, [.null, .null, .int 0, .null, .long 0, .null, .null, .null, .int 0, .int 0, .int 0, .int 0, .null, .null, .null, .null, .null, .null, .null, .int 0, .int 0, .int 0, .null, .int 0, .null, .null]))] H.size q → (fun q : Nat => s.heap.size ≤ q) q := fun q h => by
    rcases h with ⟨k, e9, h⟩ | h
    · match k, h with
      | 0, h => cases h; exact hD.2 41 _ h41
      | k + 1, h => simp at h
    · exact Nat.le_trans hS.1 h
  refine va_callv (va_runI (As := []) (rest := [.ref m0]) ⟨hx, hb, hml, hown, hts⟩ (kX7_init l D cI cJ cC m0 H.size) (cwI 0 hts gL_law_X7_init rfl rfl rfl (hts (.initialized RX7) (by decide +kernel)) (hts (.methodLink RL 12 yX7_init) (by decide +kernel)) (hts (.instanceMethod yX7_init) (by decide +kernel)) rfl (by decide +kernel) ⟨Nat.le_of_ble_eq_true rfl, Nat.le_of_ble_eq_true rfl⟩) ⟨fun b U g mk q => by obtain ⟨q0, q1, qP, qK, qD⟩ := q; exact ⟨q0, q1, qP, va_K.moved (u := U) (U := U.calling g mk b) (Vm.Alike.refl U.vm) qK, qD⟩, fun U hU hW => ⟨rfl, by rw [hU], by rw [hU]; exact hPc, va_K.moved hW.alike hK, hDc.weaken (fun _ _ _ _ => trivial)⟩⟩ rfl rfl hl.1 rfl (lv_room (Nat.le_of_ble_eq_true rfl)) dL_law_12 ⟨Nat.le_of_ble_eq_true rfl, Nat.le_of_ble_eq_true rfl⟩) hS (fun q _ h => hFc q h) hFc (fun u t H1 locs ht hvm hw hB hz1 hk1 hS => ?_)
  obtain ⟨aM, hm0, hzM, hAdM, hPM, hK1⟩ := hB
  rw [ht] at hPM
  have hWi : ∀ i, i < 41 → (zW (zcC aC cI cJ cC) 41 aC zC0 ++ [(m0, .inr (7, [.null, .null, .int 0, .null, .long 0, .null, .null, .null, .int 0, .int 0, .int 0, .int 0, .null, .null, .null, .null, .null, .null, .null, .int 0, .int 0, .int 0, .null, .int 0, .null, .null]))] : va_W)[i]? = some (aC i, zcC aC cI cJ cC i (zC0.1 i) (zC0.2 i)) := fun i hi => by rw [List.getElem?_append_left (by simp [zW]; omega)]; exact zW_get hi
  have hlt : ∀ i, i < 41 → aC i < H.size := fun i hi => (hP i _ (hWi i hi)).lt
  have hnm : ∀ i, i < 41 → aC i ≠ m0 := fun i hi h9 => absurd (hD.1 i 41 _ _ (hWi i hi) h41 h9) (by omega)
  have hzC : zA 41 aC := fun i j hi hj h9 => hD.1 i j _ _ (hWi i hi) (hWi j hj) h9
  have hAC : ∀ i, i < 41 → s.heap.size ≤ aC i := fun i hi => hD.2 i _ (hWi i hi)
  have hAM : ∀ i, i < 17 → s.heap.size ≤ aM i := fun i hi => hFc _ (hAdM i hi)
  have hdis : ∀ i j, i < 41 → j < 17 → aC i ≠ aM j := fun i j hi hj h9 => by
    have h := hAdM j hj
    rw [← h9] at h
    rcases h with ⟨k, e9, h⟩ | h
    · match k, h with
      | 0, h => have h0 := (Prod.mk.inj (Option.some.inj h)).1; exact hnm i hi h0.symm
      | k + 1, h => simp at h
    · exact absurd (hlt i hi) (by omega)
  have hPC : va_P D vwCl (zW (zcC aC cI cJ cC) 41 aC zC0) H1 := by
    intro k q hk
    obtain ⟨h1, h2⟩ := zW_some hk
    have h3 := hP k q (by rw [List.getElem?_append_left (by simp [zW]; omega)]; exact hk)
    refine h3.kept (hk1 q.1 h3.lt (fun h => ?_))
    rw [h2] at h
    rcases h with ⟨k9, e9, h⟩ | h
    · match k9, h with
      | 0, h => have h0 := (Prod.mk.inj (Option.some.inj h)).1; exact hnm k h1 h0.symm
      | k9 + 1, h => simp at h
    · exact absurd (hlt k h1) (by omega)
  generalize H1 = H at hPM hPC hS ⊢
  refine W.widen (k := 58) (n := 1286) (by omega) (by omega) ?_
  refine lv_astore_n (lv' := [(2, .ref m0), (1, .ref h0), (0, .ref b)]) hx hb dL_law_15 rfl hl (by decide) rfl (fun ls hl => ?_)
  refine lv_iconst (v := 0) hx hb dL_law_16 (by decide) ?_
  refine lv_istore_n (lv' := [(3, .int 0), (2, .ref m0), (1, .ref h0), (0, .ref b)]) hx hb dL_law_17 rfl hl (by decide) rfl (fun ls hl => ?_)
  rw [← h00, ← hm0] at hl
  exact law_loop hsteps hL C0 ⟨hK, hzC, hzM, hdis, hAC, hAM, hE⟩ (L + 1) 0 0 (Nat.zero_le L) (by omega) nI_0.symm zC0 zM0 _ _ hR0 hPC hPM hS ls (lv_sub hl [3, 2, 1, 0] rfl)
