def zcC (a : Nat → Nat) (cI cJ cC : ClassId) : zCell := fun q f g => match q with
  | 0 => .inr (6, [.ref (a 1), .ref (a 10), .int (f 2), .ref (a 19), .ref (a 22), .ref (a 26), .ref (a 32), .ref (a 34), .ref (a 37), .ref (a 38), .ref (a 39), .ref (a 40)])
  | 1 => .inr (3, [.int (f 0), .ref (a 2), .ref (a 3), .ref (a 4), .int (f 4), .ref (a 5), .ref (a 6), .ref (a 7), .ref (a 8), .ref (a 9)])
  | 2 => .inl (cI, 8, .inl f)
  | 3 => .inl (cI, 8, .inl f)
  | 4 => .inl (cI, 40, .inl f)
  | 5 => .inl (cI, 6, .inl f)
  | 6 => .inl (cI, 36, .inl f)
  | 7 => .inl (cI, 15, .inl f)
  | 8 => .inl (cI, 15, .inl f)
  | 9 => .inl (cI, 3, .inl f)
  | 10 => .inr (3, [.int (f 0), .ref (a 11), .ref (a 12), .ref (a 13), .int (f 4), .ref (a 14), .ref (a 15), .ref (a 16), .ref (a 17), .ref (a 18)])
  | 11 => .inl (cI, 8, .inl f)
  | 12 => .inl (cI, 8, .inl f)
  | 13 => .inl (cI, 40, .inl f)
  | 14 => .inl (cI, 6, .inl f)
  | 15 => .inl (cI, 36, .inl f)
  | 16 => .inl (cI, 15, .inl f)
  | 17 => .inl (cI, 15, .inl f)
  | 18 => .inl (cI, 3, .inl f)
  | 19 => .inr (0, [.ref (a 1), .ref (a 20), .ref (a 21), .long (g 3), .int (f 4)])
  | 20 => .inl (cI, 40, .inl f)
  | 21 => .inl (cJ, 5, .inr (.inl g))
  | 22 => .inr (5, [.ref (a 1), .ref (a 19), .ref (a 23), .ref (a 24), .ref (a 25), .int (f 5), .int (f 6), .int (f 7)])
  | 23 => .inl (cI, 4, .inl f)
  | 24 => .inl (cI, 4, .inl f)
  | 25 => .inl (cI, 3, .inl f)
  | 26 => .inr (4, [.ref (a 27), .int (f 1), .int (f 2), .ref (a 28), .ref (a 29), .ref (a 30), .int (f 6), .ref (a 31), .int (f 8)])
  | 27 => .inl (cI, 80, .inl f)
  | 28 => .inl (cI, 8, .inl f)
  | 29 => .inl (cI, 8, .inl f)
  | 30 => .inl (cI, 40, .inl f)
  | 31 => .inl (cI, 6, .inl f)
  | 32 => .inr (2, [.ref (a 33), .int (f 1)])
  | 33 => .inl (cI, 47, .inl f)
  | 34 => .inr (1, [.ref (a 35), .ref (a 36)])
  | 35 => .inl (cI, 72, .inl f)
  | 36 => .inl (cI, 4, .inl f)
  | 37 => .inl (cI, 3, .inl f)
  | 38 => .inl (cI, 3, .inl f)
  | 39 => .inl (cJ, 3, .inr (.inl g))
  | 40 => .inl (cJ, 3, .inr (.inl g))
  | _ => .inl (cI, 0, .inl f)
theorem zcC_0 (a : Nat → Nat) (cI cJ cC : ClassId) (f : Nat → Int32) (g : Nat → Int64) : zcC a cI cJ cC 0 f g = .inr (6, [.ref (a 1), .ref (a 10), .int (f 2), .ref (a 19), .ref (a 22), .ref (a 26), .ref (a 32), .ref (a 34), .ref (a 37), .ref (a 38), .ref (a 39), .ref (a 40)]) := rfl
theorem zcC_1 (a : Nat → Nat) (cI cJ cC : ClassId) (f : Nat → Int32) (g : Nat → Int64) : zcC a cI cJ cC 1 f g = .inr (3, [.int (f 0), .ref (a 2), .ref (a 3), .ref (a 4), .int (f 4), .ref (a 5), .ref (a 6), .ref (a 7), .ref (a 8), .ref (a 9)]) := rfl
theorem zcC_2 (a : Nat → Nat) (cI cJ cC : ClassId) (f : Nat → Int32) (g : Nat → Int64) : zcC a cI cJ cC 2 f g = .inl (cI, 8, .inl f) := rfl
theorem zcC_3 (a : Nat → Nat) (cI cJ cC : ClassId) (f : Nat → Int32) (g : Nat → Int64) : zcC a cI cJ cC 3 f g = .inl (cI, 8, .inl f) := rfl
theorem zcC_4 (a : Nat → Nat) (cI cJ cC : ClassId) (f : Nat → Int32) (g : Nat → Int64) : zcC a cI cJ cC 4 f g = .inl (cI, 40, .inl f) := rfl
theorem zcC_5 (a : Nat → Nat) (cI cJ cC : ClassId) (f : Nat → Int32) (g : Nat → Int64) : zcC a cI cJ cC 5 f g = .inl (cI, 6, .inl f) := rfl
theorem zcC_6 (a : Nat → Nat) (cI cJ cC : ClassId) (f : Nat → Int32) (g : Nat → Int64) : zcC a cI cJ cC 6 f g = .inl (cI, 36, .inl f) := rfl
theorem zcC_7 (a : Nat → Nat) (cI cJ cC : ClassId) (f : Nat → Int32) (g : Nat → Int64) : zcC a cI cJ cC 7 f g = .inl (cI, 15, .inl f) := rfl
theorem zcC_8 (a : Nat → Nat) (cI cJ cC : ClassId) (f : Nat → Int32) (g : Nat → Int64) : zcC a cI cJ cC 8 f g = .inl (cI, 15, .inl f) := rfl
theorem zcC_9 (a : Nat → Nat) (cI cJ cC : ClassId) (f : Nat → Int32) (g : Nat → Int64) : zcC a cI cJ cC 9 f g = .inl (cI, 3, .inl f) := rfl
theorem zcC_10 (a : Nat → Nat) (cI cJ cC : ClassId) (f : Nat → Int32) (g : Nat → Int64) : zcC a cI cJ cC 10 f g = .inr (3, [.int (f 0), .ref (a 11), .ref (a 12), .ref (a 13), .int (f 4), .ref (a 14), .ref (a 15), .ref (a 16), .ref (a 17), .ref (a 18)]) := rfl
theorem zcC_11 (a : Nat → Nat) (cI cJ cC : ClassId) (f : Nat → Int32) (g : Nat → Int64) : zcC a cI cJ cC 11 f g = .inl (cI, 8, .inl f) := rfl
theorem zcC_12 (a : Nat → Nat) (cI cJ cC : ClassId) (f : Nat → Int32) (g : Nat → Int64) : zcC a cI cJ cC 12 f g = .inl (cI, 8, .inl f) := rfl
theorem zcC_13 (a : Nat → Nat) (cI cJ cC : ClassId) (f : Nat → Int32) (g : Nat → Int64) : zcC a cI cJ cC 13 f g = .inl (cI, 40, .inl f) := rfl
theorem zcC_14 (a : Nat → Nat) (cI cJ cC : ClassId) (f : Nat → Int32) (g : Nat → Int64) : zcC a cI cJ cC 14 f g = .inl (cI, 6, .inl f) := rfl
theorem zcC_15 (a : Nat → Nat) (cI cJ cC : ClassId) (f : Nat → Int32) (g : Nat → Int64) : zcC a cI cJ cC 15 f g = .inl (cI, 36, .inl f) := rfl
theorem zcC_16 (a : Nat → Nat) (cI cJ cC : ClassId) (f : Nat → Int32) (g : Nat → Int64) : zcC a cI cJ cC 16 f g = .inl (cI, 15, .inl f) := rfl
theorem zcC_17 (a : Nat → Nat) (cI cJ cC : ClassId) (f : Nat → Int32) (g : Nat → Int64) : zcC a cI cJ cC 17 f g = .inl (cI, 15, .inl f) := rfl
theorem zcC_18 (a : Nat → Nat) (cI cJ cC : ClassId) (f : Nat → Int32) (g : Nat → Int64) : zcC a cI cJ cC 18 f g = .inl (cI, 3, .inl f) := rfl
theorem zcC_19 (a : Nat → Nat) (cI cJ cC : ClassId) (f : Nat → Int32) (g : Nat → Int64) : zcC a cI cJ cC 19 f g = .inr (0, [.ref (a 1), .ref (a 20), .ref (a 21), .long (g 3), .int (f 4)]) := rfl
theorem zcC_20 (a : Nat → Nat) (cI cJ cC : ClassId) (f : Nat → Int32) (g : Nat → Int64) : zcC a cI cJ cC 20 f g = .inl (cI, 40, .inl f) := rfl
theorem zcC_21 (a : Nat → Nat) (cI cJ cC : ClassId) (f : Nat → Int32) (g : Nat → Int64) : zcC a cI cJ cC 21 f g = .inl (cJ, 5, .inr (.inl g)) := rfl
theorem zcC_22 (a : Nat → Nat) (cI cJ cC : ClassId) (f : Nat → Int32) (g : Nat → Int64) : zcC a cI cJ cC 22 f g = .inr (5, [.ref (a 1), .ref (a 19), .ref (a 23), .ref (a 24), .ref (a 25), .int (f 5), .int (f 6), .int (f 7)]) := rfl
theorem zcC_23 (a : Nat → Nat) (cI cJ cC : ClassId) (f : Nat → Int32) (g : Nat → Int64) : zcC a cI cJ cC 23 f g = .inl (cI, 4, .inl f) := rfl
theorem zcC_24 (a : Nat → Nat) (cI cJ cC : ClassId) (f : Nat → Int32) (g : Nat → Int64) : zcC a cI cJ cC 24 f g = .inl (cI, 4, .inl f) := rfl
theorem zcC_25 (a : Nat → Nat) (cI cJ cC : ClassId) (f : Nat → Int32) (g : Nat → Int64) : zcC a cI cJ cC 25 f g = .inl (cI, 3, .inl f) := rfl
theorem zcC_26 (a : Nat → Nat) (cI cJ cC : ClassId) (f : Nat → Int32) (g : Nat → Int64) : zcC a cI cJ cC 26 f g = .inr (4, [.ref (a 27), .int (f 1), .int (f 2), .ref (a 28), .ref (a 29), .ref (a 30), .int (f 6), .ref (a 31), .int (f 8)]) := rfl
theorem zcC_27 (a : Nat → Nat) (cI cJ cC : ClassId) (f : Nat → Int32) (g : Nat → Int64) : zcC a cI cJ cC 27 f g = .inl (cI, 80, .inl f) := rfl
theorem zcC_28 (a : Nat → Nat) (cI cJ cC : ClassId) (f : Nat → Int32) (g : Nat → Int64) : zcC a cI cJ cC 28 f g = .inl (cI, 8, .inl f) := rfl
theorem zcC_29 (a : Nat → Nat) (cI cJ cC : ClassId) (f : Nat → Int32) (g : Nat → Int64) : zcC a cI cJ cC 29 f g = .inl (cI, 8, .inl f) := rfl
theorem zcC_30 (a : Nat → Nat) (cI cJ cC : ClassId) (f : Nat → Int32) (g : Nat → Int64) : zcC a cI cJ cC 30 f g = .inl (cI, 40, .inl f) := rfl
theorem zcC_31 (a : Nat → Nat) (cI cJ cC : ClassId) (f : Nat → Int32) (g : Nat → Int64) : zcC a cI cJ cC 31 f g = .inl (cI, 6, .inl f) := rfl
theorem zcC_32 (a : Nat → Nat) (cI cJ cC : ClassId) (f : Nat → Int32) (g : Nat → Int64) : zcC a cI cJ cC 32 f g = .inr (2, [.ref (a 33), .int (f 1)]) := rfl
theorem zcC_33 (a : Nat → Nat) (cI cJ cC : ClassId) (f : Nat → Int32) (g : Nat → Int64) : zcC a cI cJ cC 33 f g = .inl (cI, 47, .inl f) := rfl
theorem zcC_34 (a : Nat → Nat) (cI cJ cC : ClassId) (f : Nat → Int32) (g : Nat → Int64) : zcC a cI cJ cC 34 f g = .inr (1, [.ref (a 35), .ref (a 36)]) := rfl
theorem zcC_35 (a : Nat → Nat) (cI cJ cC : ClassId) (f : Nat → Int32) (g : Nat → Int64) : zcC a cI cJ cC 35 f g = .inl (cI, 72, .inl f) := rfl
theorem zcC_36 (a : Nat → Nat) (cI cJ cC : ClassId) (f : Nat → Int32) (g : Nat → Int64) : zcC a cI cJ cC 36 f g = .inl (cI, 4, .inl f) := rfl
theorem zcC_37 (a : Nat → Nat) (cI cJ cC : ClassId) (f : Nat → Int32) (g : Nat → Int64) : zcC a cI cJ cC 37 f g = .inl (cI, 3, .inl f) := rfl
theorem zcC_38 (a : Nat → Nat) (cI cJ cC : ClassId) (f : Nat → Int32) (g : Nat → Int64) : zcC a cI cJ cC 38 f g = .inl (cI, 3, .inl f) := rfl
theorem zcC_39 (a : Nat → Nat) (cI cJ cC : ClassId) (f : Nat → Int32) (g : Nat → Int64) : zcC a cI cJ cC 39 f g = .inl (cJ, 3, .inr (.inl g)) := rfl
theorem zcC_40 (a : Nat → Nat) (cI cJ cC : ClassId) (f : Nat → Int32) (g : Nat → Int64) : zcC a cI cJ cC 40 f g = .inl (cJ, 3, .inr (.inl g)) := rfl
def zlC : Nat → Nat := fun q => match q with
  | 2 => 8
  | 3 => 8
  | 4 => 40
  | 5 => 6
  | 6 => 36
  | 7 => 15
  | 8 => 15
  | 9 => 3
  | 11 => 8
  | 12 => 8
  | 13 => 40
  | 14 => 6
  | 15 => 36
  | 16 => 15
  | 17 => 15
  | 18 => 3
  | 20 => 40
  | 21 => 5
  | 23 => 4
  | 24 => 4
  | 25 => 3
  | 27 => 80
  | 28 => 8
  | 29 => 8
  | 30 => 40
  | 31 => 6
  | 33 => 47
  | 35 => 72
  | 36 => 4
  | 37 => 3
  | 38 => 3
  | 39 => 3
  | 40 => 3
  | _ => 0
def zcM (a : Nat → Nat) (cI cJ cC : ClassId) : zCell := fun q f g => match q with
  | 0 => .inr (7, [.ref (a 1), .ref (a 2), .int (f 2), .ref (a 3), .long (g 4), .ref (a 4), .ref (a 5), .ref (a 6), .int (f 8), .int (f 9), .int (f 10), .int (f 11), .ref (a 7), .ref (a 8), .ref (a 9), .ref (a 10), .ref (a 11), .ref (a 12), .ref (a 13), .int (f 19), .int (f 20), .int (f 21), .ref (a 14), .int (f 23), .ref (a 15), .ref (a 16)])
  | 1 => .inl (cI, 133, .inl f)
  | 2 => .inl (cI, 133, .inl f)
  | 3 => .inl (cJ, 5, .inr (.inl g))
  | 4 => .inl (cI, 3, .inl f)
  | 5 => .inl (cI, 3, .inl f)
  | 6 => .inl (cI, 80, .inl f)
  | 7 => .inl (cI, 5, .inl f)
  | 8 => .inl (cI, 56, .inl f)
  | 9 => .inl (cC, 36, .inl f)
  | 10 => .inl (cI, 6, .inl f)
  | 11 => .inl (cJ, 3, .inr (.inl g))
  | 12 => .inl (cI, 4, .inl f)
  | 13 => .inl (cI, 4, .inl f)
  | 14 => .inl (cI, 60, .inl f)
  | 15 => .inl (cI, 72, .inl f)
  | 16 => .inl (cI, 4, .inl f)
  | _ => .inl (cI, 0, .inl f)
theorem zcM_0 (a : Nat → Nat) (cI cJ cC : ClassId) (f : Nat → Int32) (g : Nat → Int64) : zcM a cI cJ cC 0 f g = .inr (7, [.ref (a 1), .ref (a 2), .int (f 2), .ref (a 3), .long (g 4), .ref (a 4), .ref (a 5), .ref (a 6), .int (f 8), .int (f 9), .int (f 10), .int (f 11), .ref (a 7), .ref (a 8), .ref (a 9), .ref (a 10), .ref (a 11), .ref (a 12), .ref (a 13), .int (f 19), .int (f 20), .int (f 21), .ref (a 14), .int (f 23), .ref (a 15), .ref (a 16)]) := rfl
theorem zcM_1 (a : Nat → Nat) (cI cJ cC : ClassId) (f : Nat → Int32) (g : Nat → Int64) : zcM a cI cJ cC 1 f g = .inl (cI, 133, .inl f) := rfl
theorem zcM_2 (a : Nat → Nat) (cI cJ cC : ClassId) (f : Nat → Int32) (g : Nat → Int64) : zcM a cI cJ cC 2 f g = .inl (cI, 133, .inl f) := rfl
theorem zcM_3 (a : Nat → Nat) (cI cJ cC : ClassId) (f : Nat → Int32) (g : Nat → Int64) : zcM a cI cJ cC 3 f g = .inl (cJ, 5, .inr (.inl g)) := rfl
theorem zcM_4 (a : Nat → Nat) (cI cJ cC : ClassId) (f : Nat → Int32) (g : Nat → Int64) : zcM a cI cJ cC 4 f g = .inl (cI, 3, .inl f) := rfl
theorem zcM_5 (a : Nat → Nat) (cI cJ cC : ClassId) (f : Nat → Int32) (g : Nat → Int64) : zcM a cI cJ cC 5 f g = .inl (cI, 3, .inl f) := rfl
theorem zcM_6 (a : Nat → Nat) (cI cJ cC : ClassId) (f : Nat → Int32) (g : Nat → Int64) : zcM a cI cJ cC 6 f g = .inl (cI, 80, .inl f) := rfl
theorem zcM_7 (a : Nat → Nat) (cI cJ cC : ClassId) (f : Nat → Int32) (g : Nat → Int64) : zcM a cI cJ cC 7 f g = .inl (cI, 5, .inl f) := rfl
theorem zcM_8 (a : Nat → Nat) (cI cJ cC : ClassId) (f : Nat → Int32) (g : Nat → Int64) : zcM a cI cJ cC 8 f g = .inl (cI, 56, .inl f) := rfl
theorem zcM_9 (a : Nat → Nat) (cI cJ cC : ClassId) (f : Nat → Int32) (g : Nat → Int64) : zcM a cI cJ cC 9 f g = .inl (cC, 36, .inl f) := rfl
theorem zcM_10 (a : Nat → Nat) (cI cJ cC : ClassId) (f : Nat → Int32) (g : Nat → Int64) : zcM a cI cJ cC 10 f g = .inl (cI, 6, .inl f) := rfl
theorem zcM_11 (a : Nat → Nat) (cI cJ cC : ClassId) (f : Nat → Int32) (g : Nat → Int64) : zcM a cI cJ cC 11 f g = .inl (cJ, 3, .inr (.inl g)) := rfl
theorem zcM_12 (a : Nat → Nat) (cI cJ cC : ClassId) (f : Nat → Int32) (g : Nat → Int64) : zcM a cI cJ cC 12 f g = .inl (cI, 4, .inl f) := rfl
theorem zcM_13 (a : Nat → Nat) (cI cJ cC : ClassId) (f : Nat → Int32) (g : Nat → Int64) : zcM a cI cJ cC 13 f g = .inl (cI, 4, .inl f) := rfl
theorem zcM_14 (a : Nat → Nat) (cI cJ cC : ClassId) (f : Nat → Int32) (g : Nat → Int64) : zcM a cI cJ cC 14 f g = .inl (cI, 60, .inl f) := rfl
theorem zcM_15 (a : Nat → Nat) (cI cJ cC : ClassId) (f : Nat → Int32) (g : Nat → Int64) : zcM a cI cJ cC 15 f g = .inl (cI, 72, .inl f) := rfl
theorem zcM_16 (a : Nat → Nat) (cI cJ cC : ClassId) (f : Nat → Int32) (g : Nat → Int64) : zcM a cI cJ cC 16 f g = .inl (cI, 4, .inl f) := rfl
def zlM : Nat → Nat := fun q => match q with
  | 1 => 133
  | 2 => 133
  | 3 => 5
  | 4 => 3
  | 5 => 3
  | 6 => 80
  | 7 => 5
  | 8 => 56
  | 9 => 36
  | 10 => 6
  | 11 => 3
  | 12 => 4
  | 13 => 4
  | 14 => 60
  | 15 => 72
  | 16 => 4
  | _ => 0
/-- what stays around the class: links of nest mates, the words' constants, two statics of the JDK's -/
def zNests : List (String × Nat × MethodName) := [(RX0, 42, yX6_within), (RX1, 18, yX6_within), (RX3, 47, yX6_within), (RX4, 40, yX6_within), (RX5, 67, yX6_within), (RX0, 100, yX6_cut), (RX5, 99, yX6_differing), (RX2, 44, yX6_wordOf), (RX4, 66, yX6_wordOf)]
def zSlen : List Nat := [5, 5, 6, 6, 4, 5, 0]
def zSbyt : List (List Int32) := [[103, 108, 97, 115, 115], [116, 104, 105, 99, 107], [115, 109, 111, 107, 101, 100], [109, 105, 114, 114, 111, 114], [100, 121, 101, 100], [99, 108, 101, 97, 114], []]
def zSix : List Nat := [312, 314, 316, 318, 320, 322, 324]
def zStx : List String := ["glass", "thick", "smoked", "mirror", "dyed", "clear", ""]
def zEC (adK adV : Nat → Nat) : zE := fun A U H => (∀ q ∈ zNests, va_Nw (.methodLinkNest q.1 q.2.1 q.2.2 RX6) U) ∧ vk_S 7 zSlen zSbyt adK adV A U H ∧ (∀ i, i < 7 → vk_R RX6 (zSix.getD i 0) (zStx.getD i "") (adK i) U) ∧ va_Z "java/lang/String" "COMPACT_STRINGS" "Z" (.int 1) A U H ∧ va_Zq "jdk/internal/util/Preconditions" "SIOOBE_FORMATTER" "Ljava/util/function/BiFunction;" A U H
theorem zEC_good (adK adV : Nat → Nat) : zGood (zEC adK adV) := by
  refine ⟨fun A B U H hAB h => ?_, fun A s U H hW h => ?_, fun A U H H1 hq h => ?_, fun A U H g mk a h => ?_⟩
  · obtain ⟨h1, h2, h3, h4, h5⟩ := h
    exact ⟨h1, h2.narrow hAB, h3, h4.narrow hAB, h5.narrow hAB⟩
  · obtain ⟨h1, h2, h3, h4, h5⟩ := h
    exact ⟨fun q hq => va_Nw.warmM hW (h1 q hq), h2.moved hW.alike, fun i hi => (h3 i hi).warm hW, h4.moved hW.alike, h5.moved hW.alike⟩
  · obtain ⟨h1, h2, h3, h4, h5⟩ := h
    exact ⟨h1, h2.kept hq, h3, h4.kept hq, h5.kept hq⟩
  · obtain ⟨h1, h2, h3, h4, h5⟩ := h
    have hv : U.vm = (U.calling g mk a).vm := rfl
    have ha : U.vm.Alike (U.calling g mk a).vm := Vm.Alike.refl U.vm
    exact ⟨fun q hq => va_Nw.same rfl hv (h1 q hq), h2.moved ha, fun i hi => (h3 i hi).same hv.symm, h4.moved ha, h5.moved ha⟩
theorem zE_nest {adK adV : Nat → Nat} {A : Nat → Prop} {U : State} {H : Heap} (h : zEC adK adV A U H) (k : Nat) {q1 : String} {q2 : Nat} {q3 : MethodName} (hk : zNests[k]? = some (q1, q2, q3)) : va_Nw (.methodLinkNest q1 q2 q3 RX6) U := h.1 (q1, q2, q3) (List.mem_of_getElem? hk)
def zEM : zE := fun _ _ _ => True
theorem zEM_good : zGood zEM := ⟨fun _ _ _ _ _ _ => trivial, fun _ _ _ _ _ _ => trivial, fun _ _ _ _ _ _ => trivial, fun _ _ _ _ _ _ _ => trivial⟩
