/-! ===== the words' constants: what the JDK's own members answer of them ===== -/
theorem z_ldcw {p : Program} {l : Launch} {e : Env} {R : Room} {s : State} {m : MethodId} {args : Array Value} {below : List Frame} {meth : Method} {c : Code} {H : Heap} {locs : List Loc} {cells slots : Nat} {Q : State → Prop} {cc : ByteArray} {pc : Nat} {ls : Array Slot} {rest : List Value} (hexec : p.tables.exec = Jvm.exec) (hb : c.code = cc) {own tx : String} {index q : Nat} (hown : s.vm.findClass own = some m.cls) (hZ : vk_R own index tx q s) (hdg : decode cc pc = .ok (.ldc_w index, 3))
    (kk : W p l e R s m args below meth c H locs cells slots Q (F0 m (pc + 3) ls (.ref q :: rest))) : W p l e R s m args below meth c H locs cells slots Q (F0 m pc ls rest) := by
  intro T hT X
  obtain ⟨t, a1, b1⟩ := kk T hT X
  refine ⟨t, ?_, b1⟩
  obtain ⟨k, cf, i, a', hk, hcf, hcp, -, hr, hev'⟩ := Cond.stringRef_spec (args := #[]) hown hZ.1
  cases hZ.2.symm.trans hev'
  obtain ⟨k', hk', he⟩ := X.warmed.alike.2.2 _ _ hk
  have hr' : k'.resolved[index]? = some (some (.string q)) := by
    rcases X.warmed.entry hk hk' index with h | ⟨h, -⟩
    · rw [h]; exact hr
    · rw [hr] at h; cases h
  have hdg2 : decode c.code (F0 m pc ls rest).pc = .ok (.ldc_w index, 3) := by rw [hb]; exact hdg
  jvm_step X.here [hexec, hdg2, ldc_w.wp_string (e := e) (s := T) (f := F0 m pc ls rest) X.here.top hk' (by rw [he]; exact hcf) hcp hr']
  exact a1
theorem z_aret {p : Program} {l : Launch} {e : Env} {R : Room} {s : State} {m : MethodId} {args : Array Value} {below : List Frame} {meth : Method} {c : Code} {H : Heap} {locs : List Loc} {cc : ByteArray} {pc : Nat} {ls : Array Slot} {D : va_G} {tys : List (ClassId × FieldType)} {nL : Nat} {own : String} {Ts : List Cond} {ce : zCell} {n : Nat} {a adK : Nat → Nat} {σ τ : ZS} (X : zX p s m args c cc nL own Ts D tys) (hP : va_P D vwCl (zW ce n a σ) H) (hS : va_S (zF n a s.heap.size) s.heap H locs) {v r : Nat} {cn : String} (hr : meth.sig.returnType = some (.object cn)) (hlocks : meth.locks = false) (h : some (v, σ) = some (r, τ)) (hdg : decode cc pc = .ok (.areturn, 1)) : W p l e R s m args below meth c H locs 0 0 (MQ below (va_Qr (fun (τ' : ZS) => τ' = τ) (fun (τ' : ZS) (q : Nat) (t : State) => q = adK r ∧ zPost ce n a D tys τ' t) (zF n a s.heap.size)) args s 0 0 (zF n a s.heap.size)) (F0 m pc ls [.ref (adK v)]) := by
  obtain ⟨hx, hb, -, hown, hts, hK⟩ := X
  obtain ⟨rfl, rfl⟩ := zres h
  exact W.aret hx hb hr (Or.inl ⟨_, rfl⟩) (Or.inr ⟨_, rfl⟩) (fun t ht hW => ⟨⟨σ, adK v, rfl, rfl, rfl, by rw [ht]; exact hP, va_K.moved hW.alike hK⟩, hS.F ht⟩) hS.2.2 hdg hlocks
theorem z_runVr {p : Program} {l : Launch} {e : Env} {R : Room} {s : State} {m : MethodId} {args : Array Value} {below : List Frame} {meth : Method} {c : Code} {H : Heap} {locs : List Loc} {cc : ByteArray} {pc : Nat} {ls : Array Slot} {rest : List Value} {D : va_G} {tys : List (ClassId × FieldType)} {nL : Nat} {own : String} {Ts : List Cond} {ce : zCell} {n : Nat} {a : Nat → Nat} {σ : ZS} {E : zE} {y : MethodName} {bytes : ByteArray} {maxL nn index : Nat} {ret : Option FieldType} {ws : List Cond} {rm : Room} {As st0 : List Value} {Qc : Array Value → State → Outcome → State → Prop} (X : zX p s m args c cc nL own Ts D tys) (hG : zGood E) (hA : zA n a) (hE : E (zF n a s.heap.size) s s.heap) (hP : va_P D vwCl (zW ce n a σ) H) (hS : va_S (zF n a s.heap.size) s.heap H locs) {C : String} {b : Nat}
    (hM : Met l y ws rm (va_Pc (.ref b :: As) (zPre ce n a D tys E H.size σ)) Qc 0 0 (zF n a H.size)) (cw : CallW R s args own C index y bytes maxL ret ws rm 0 0 nn) (hrc : ∃ cell : Cell, H[b]? = some cell ∧ cell.vm.isStatics = false ∧ s.vm.findClass C = some cell.cls)
    (hn : As.length = nn) (hsize : ls.size = nL) (hst : st0 = As.reverse ++ .ref b :: rest) (hW : (rest.map fun v => v.category).sum ≤ 8) (hdg : decode cc pc = .ok (.invokevirtual index, 3)) :
    va_Run p l e R s m args below meth c H locs 0 0 0 0 (F0 m pc ls st0) rest (Qc (Value.ref b :: As).toArray) (zF n a H.size) := by
  obtain ⟨hx, hb, hml, hown, hts, hK⟩ := X
  obtain ⟨b1, b2⟩ := z_pre hG hA hK hE hP hS (.ref b :: As)
  exact va_runV (g := F0 m pc ls st0) ⟨hx, hb, hml, hown, hts⟩ hM cw ⟨b1, hrc, b2⟩ rfl hn hsize hst (lv_room hW) hdg ⟨Nat.zero_le _, Nat.zero_le _⟩
def fJlen (w : Nat) (s : ZS) : Option (Int32 × ZS) := zg (decide (w < 7)) (some (nI (zSlen.getD w 0), s))
def zSch (w : Nat) (x : Int32) : Int32 := ((((zSbyt.getD w []).getD x.toNatClampNeg 0) &&& 255).toUInt32 % 65536).toInt32
def fJcat (w : Nat) (x : Int32) (s : ZS) : Option (Int32 × ZS) := zg (decide (w < 7)) (zg (zin x (zSlen.getD w 0)) (some (zSch w x, s)))
abbrev rmJ0 : Room := { frames := 0, cells := 0, slots := 0, locals := 0 }
abbrev rmJ1 : Room := { frames := 1, cells := 0, slots := 0, locals := 22 }
abbrev rmJ2 : Room := { frames := 2, cells := 0, slots := 0, locals := 43 }
abbrev rmJ3 : Room := { frames := 3, cells := 0, slots := 0, locals := 64 }
set_option maxHeartbeats 4000000 in
set_option maxRecDepth 100000 in
theorem cJcoder {l : Launch} {D : va_G} {a : Nat → Nat} {cI cJ cC : ClassId} {adK adV : Nat → Nat} {w : Nat} {s : ZS} (hw : w < 7) : zMi (zcC a cI cJ cC) 41 a D [(cI, .int), (cJ, .long)] (zEC adK adV) l yJ0_coder_7d493 wsJ0_coder_7d493 rmJ0 [.ref (adK w)] s 0 s := by
  refine z_start (cc := cJ0_coder_7d493) (maxL := 1) (ret := (some .byte)) RJ0 rfl (by decide) rfl (Nat.le_of_ble_eq_true rfl) ?_
  intro p e st m args below meth c ls H locs X hr hlocks hA hE hP hS hl
  obtain ⟨hx, hb, hml, hown, hts, -⟩ := id X
  have hl : lv_has ls 1 [(0, .ref (adK w))] := hl
  have h0 := hE.2.1.1 w hw
  refine va_gets hx hb hE.2.2.2.1 hS hown (hts (.fieldLink RJ0 38 "java/lang/String" "COMPACT_STRINGS" "Z") (by decide +kernel)) (fun _ h9 => h9) dJ0_coder_7d493_0 ?_
  refine lv_if_eq (tgt := 13) hx hb dJ0_coder_7d493_3 (by decide) (fun c1 => absurd c1 (by decide)) (fun c1 => ?_)
  refine lv_aload_n hx hb dJ0_coder_7d493_6 rfl (lv_at hl 0 rfl) ?_
  refine vk_getf hx hb h0.2.1 hS hown (hts (.fieldLink RJ0 15 "java/lang/String" "coder" "B") (by decide +kernel)) (fun _ h9 => h9) dJ0_coder_7d493_7 ?_
  refine lv_goto (tgt := 14) hx hb dJ0_coder_7d493_10 (by decide) ?_
  exact z_zret X hP hS hr hlocks (by decide) rfl dJ0_coder_7d493_14
set_option maxHeartbeats 4000000 in
set_option maxRecDepth 100000 in
theorem cJlatin {l : Launch} {D : va_G} {a : Nat → Nat} {cI cJ cC : ClassId} {adK adV : Nat → Nat} {w : Nat} {s : ZS} (hw : w < 7) : zMi (zcC a cI cJ cC) 41 a D [(cI, .int), (cJ, .long)] (zEC adK adV) l yJ0_isLatin1_aae02 wsJ0_isLatin1_aae02 rmJ0 [.ref (adK w)] s 1 s := by
  refine z_start (cc := cJ0_isLatin1_aae02) (maxL := 1) (ret := (some .boolean)) RJ0 rfl (by decide) rfl (Nat.le_of_ble_eq_true rfl) ?_
  intro p e st m args below meth c ls H locs X hr hlocks hA hE hP hS hl
  obtain ⟨hx, hb, hml, hown, hts, -⟩ := id X
  have hl : lv_has ls 1 [(0, .ref (adK w))] := hl
  have h0 := hE.2.1.1 w hw
  refine va_gets hx hb hE.2.2.2.1 hS hown (hts (.fieldLink RJ0 38 "java/lang/String" "COMPACT_STRINGS" "Z") (by decide +kernel)) (fun _ h9 => h9) dJ0_isLatin1_aae02_0 ?_
  refine lv_if_eq (tgt := 17) hx hb dJ0_isLatin1_aae02_3 (by decide) (fun c1 => absurd c1 (by decide)) (fun c1 => ?_)
  refine lv_aload_n hx hb dJ0_isLatin1_aae02_6 rfl (lv_at hl 0 rfl) ?_
  refine vk_getf hx hb h0.2.1 hS hown (hts (.fieldLink RJ0 15 "java/lang/String" "coder" "B") (by decide +kernel)) (fun _ h9 => h9) dJ0_isLatin1_aae02_7 ?_
  refine lv_if_ne (tgt := 17) hx hb dJ0_isLatin1_aae02_10 (by decide) (fun c1 => absurd rfl c1) (fun c1 => ?_)
  refine lv_iconst (v := 1) hx hb dJ0_isLatin1_aae02_13 (by decide) ?_
  refine lv_goto (tgt := 18) hx hb dJ0_isLatin1_aae02_14 (by decide) ?_
  exact z_zret X hP hS hr hlocks (by decide) rfl dJ0_isLatin1_aae02_18
set_option maxHeartbeats 4000000 in
set_option maxRecDepth 100000 in
theorem cJlen {l : Launch} {D : va_G} {a : Nat → Nat} {cI cJ cC : ClassId} {adK adV : Nat → Nat} {w : Nat} {s τ : ZS} {r : Int32} (h : fJlen w s = some (r, τ)) : zMi (zcC a cI cJ cC) 41 a D [(cI, .int), (cJ, .long)] (zEC adK adV) l yJ0_length_8abf5 wsJ0_length_8abf5 rmJ1 [.ref (adK w)] s r τ := by
  refine z_start (cc := cJ0_length_8abf5) (maxL := 1) (ret := (some .int)) RJ0 rfl (by decide) rfl (Nat.le_of_ble_eq_true rfl) ?_
  intro p e st m args below meth c ls H locs X hr hlocks hA hE hP hS hl
  obtain ⟨hx, hb, hml, hown, hts, -⟩ := id X
  have hG := zEC_good adK adV
  have hl : lv_has ls 1 [(0, .ref (adK w))] := hl
  obtain ⟨g1, h⟩ := zg_some h
  have hw : w < 7 := of_decide_eq_true g1
  have h0 := hE.2.1.1 w hw
  refine lv_aload_n hx hb dJ0_length_8abf5_0 rfl (lv_at hl 0 rfl) ?_
  refine vk_getf hx hb h0.2.2.1 hS hown (hts (.fieldLink RJ0 9 "java/lang/String" "value" "[B") (by decide +kernel)) (fun _ h9 => h9) dJ0_length_8abf5_1 ?_
  refine va_tlen hx hb h0.2.2.2 hS rfl dJ0_length_8abf5_4 ?_
  refine lv_aload_n hx hb dJ0_length_8abf5_5 rfl (lv_at hl 0 rfl) ?_
  refine z_calli hS (z_runVr (As := []) (rest := [.int (Int32.ofNat (zSlen.getD w 0))]) X hG hA hE hP hS (cJcoder (l := l) (D := D) (a := a) (cI := cI) (cJ := cJ) (cC := cC) (adK := adK) (adV := adV) (s := s) hw _) (cwV 0 hts gJ0_length_8abf5_J0_coder_7d493 rfl rfl rfl (by decide +kernel) ⟨Nat.le_of_ble_eq_true rfl, Nat.le_of_ble_eq_true rfl⟩) (vk_recv hE.2.1 hw hS) rfl hl.1 rfl (Nat.le_of_ble_eq_true rfl) dJ0_length_8abf5_6) (fun H locs hP hS => ?_)
  refine lv_ishr hx hb dJ0_length_8abf5_9 ?_
  refine z_iret X hP hS hr hlocks ?_ dJ0_length_8abf5_10
  rw [← h, show ((0 : Int32) &&& 31) = 0 &&& 31 from rfl, sb_shr0]
  rfl
set_option maxHeartbeats 4000000 in
set_option maxRecDepth 100000 in
theorem cJpre {l : Launch} {D : va_G} {a : Nat → Nat} {cI cJ cC : ClassId} {adK adV : Nat → Nat} {i len : Int32} {v : Value} {s : ZS} (hv : v.category = 1) (h0 : ¬ i < 0) (h1 : i < len) : zMi (zcC a cI cJ cC) 41 a D [(cI, .int), (cJ, .long)] (zEC adK adV) l yJ3_checkIndex_8e157 wsJ3_checkIndex_8e157 rmJ0 [.int i, .int len, v] s i s := by
  refine z_start (cc := cJ3_checkIndex_8e157) (maxL := 3) (ret := (some .int)) RJ3 rfl (by decide) rfl (by cases v <;> first | exact (Nat.le_of_ble_eq_true rfl) | exact absurd hv (by simp [Value.category])) ?_
  intro p e st m args below meth c ls H locs X hr hlocks hA hE hP hS hl
  obtain ⟨hx, hb, hml, hown, hts, -⟩ := id X
  have hl : lv_has ls 3 [(0, .int i), (1, .int len), (2, v)] := hl
  refine lv_iload_n hx hb dJ3_checkIndex_8e157_0 rfl (lv_at hl 0 rfl) ?_
  refine lv_if_lt (tgt := 9) hx hb dJ3_checkIndex_8e157_1 (by decide) (fun c1 => absurd c1 h0) (fun c1 => ?_)
  refine lv_iload_n hx hb dJ3_checkIndex_8e157_4 rfl (lv_at hl 0 rfl) ?_
  refine lv_iload_n hx hb dJ3_checkIndex_8e157_5 rfl (lv_at hl 1 rfl) ?_
  refine lv_icmp_lt (tgt := 16) hx hb dJ3_checkIndex_8e157_6 (by decide) (fun c1 => ?_) (fun c1 => absurd h1 c1)
  refine lv_iload_n hx hb dJ3_checkIndex_8e157_16 rfl (lv_at hl 0 rfl) ?_
  exact z_iret X hP hS hr hlocks rfl dJ3_checkIndex_8e157_17
set_option maxHeartbeats 4000000 in
set_option maxRecDepth 100000 in
theorem cJchk {l : Launch} {D : va_G} {a : Nat → Nat} {cI cJ cC : ClassId} {adK adV : Nat → Nat} {i len : Int32} {s : ZS} (h0 : ¬ i < 0) (h1 : i < len) : zMv (zcC a cI cJ cC) 41 a D [(cI, .int), (cJ, .long)] (zEC adK adV) l yJ0_checkIndex_df160 wsJ0_checkIndex_df160 rmJ1 [.int i, .int len] s () s := by
  refine z_start (cc := cJ0_checkIndex_df160) (maxL := 2) (ret := none) RJ0 rfl (by decide) rfl (Nat.le_of_ble_eq_true rfl) ?_
  intro p e st m args below meth c ls H locs X hr hlocks hA hE hP hS hl
  obtain ⟨hx, hb, hml, hown, hts, -⟩ := id X
  have hG := zEC_good adK adV
  have hl : lv_has ls 2 [(0, .int i), (1, .int len)] := hl
  refine lv_iload_n hx hb dJ0_checkIndex_df160_0 rfl (lv_at hl 0 rfl) ?_
  refine lv_iload_n hx hb dJ0_checkIndex_df160_1 rfl (lv_at hl 1 rfl) ?_
  obtain ⟨v, hv, hZ⟩ : ∃ v : Value, v.category = 1 ∧ va_Z "jdk/internal/util/Preconditions" "SIOOBE_FORMATTER" "Ljava/util/function/BiFunction;" v (zF 41 a st.heap.size) st st.heap := by
    rcases hE.2.2.2.2 with h | ⟨t, h⟩
    · exact ⟨.null, rfl, h⟩
    · exact ⟨.ref t, rfl, h⟩
  refine va_gets hx hb hZ hS hown (hts (.fieldLink RJ0 1053 "jdk/internal/util/Preconditions" "SIOOBE_FORMATTER" "Ljava/util/function/BiFunction;") (by decide +kernel)) (fun _ h9 => h9) dJ0_checkIndex_df160_2 ?_
  refine z_calli hS (z_runS (As := [.int i, .int len, v]) (rest := []) X hG hA hE hP hS (cJpre (l := l) (D := D) (a := a) (cI := cI) (cJ := cJ) (cC := cC) (adK := adK) (adV := adV) (s := s) hv h0 h1 _) (va_cwS 3 hts gJ0_checkIndex_df160_J3_checkIndex_8e157 rfl rfl rfl (by decide +kernel) ⟨Nat.le_of_ble_eq_true rfl, Nat.le_of_ble_eq_true rfl⟩) rfl hl.1 rfl (Nat.le_of_ble_eq_true rfl) dJ0_checkIndex_df160_5) (fun H locs hP hS => ?_)
  refine lv_pop hx hb dJ0_checkIndex_df160_8 rfl ?_
  exact z_vret X hP hS (r := ()) hr hlocks rfl dJ0_checkIndex_df160_9
theorem zin_lt {i : Int32} {n : Nat} (hn : n < 2 ^ 31) (h : zin i n = true) : ¬ i < 0 ∧ i < Int32.ofNat n := by
  obtain ⟨j, hj, rfl⟩ := vp_in_of (zin_in h) hn
  exact ⟨nI_pos (by omega), nI_lt hj hn⟩
theorem zSlen_lt : ∀ w : Nat, w < 7 → zSlen.getD w 0 < 2 ^ 31 := by decide
set_option maxHeartbeats 4000000 in
set_option maxRecDepth 100000 in
theorem cJlcat {l : Launch} {D : va_G} {a : Nat → Nat} {cI cJ cC : ClassId} {adK adV : Nat → Nat} {w : Nat} {x : Int32} {s : ZS} (hw : w < 7) (hx1 : zin x (zSlen.getD w 0) = true) : zMi (zcC a cI cJ cC) 41 a D [(cI, .int), (cJ, .long)] (zEC adK adV) l yJ1_charAt_3b067 wsJ1_charAt_3b067 rmJ2 [.ref (adV w), .int x] s (zSch w x) s := by
  refine z_start (cc := cJ1_charAt_3b067) (maxL := 2) (ret := (some .char)) RJ1 rfl (by decide) rfl (Nat.le_of_ble_eq_true rfl) ?_
  intro p e st m args below meth c ls H locs X hr hlocks hA hE hP hS hl
  obtain ⟨hx, hb, hml, hown, hts, -⟩ := id X
  have hG := zEC_good adK adV
  have hl : lv_has ls 2 [(0, .ref (adV w)), (1, .int x)] := hl
  have h0 := hE.2.1.1 w hw
  obtain ⟨k0, k1⟩ := zin_lt (zSlen_lt w hw) hx1
  refine lv_iload_n hx hb dJ1_charAt_3b067_0 rfl (lv_at hl 1 rfl) ?_
  refine lv_aload_n hx hb dJ1_charAt_3b067_1 rfl (lv_at hl 0 rfl) ?_
  refine va_tlen hx hb h0.2.2.2 hS rfl dJ1_charAt_3b067_2 ?_
  refine z_callv hS (z_runS (As := [.int x, .int (Int32.ofNat (zSlen.getD w 0))]) (rest := []) X hG hA hE hP hS (cJchk (l := l) (D := D) (a := a) (cI := cI) (cJ := cJ) (cC := cC) (adK := adK) (adV := adV) (s := s) k0 k1 _) (va_cwS 2 hts gJ1_charAt_3b067_J0_checkIndex_df160 rfl rfl rfl (by decide +kernel) ⟨Nat.le_of_ble_eq_true rfl, Nat.le_of_ble_eq_true rfl⟩) rfl hl.1 rfl (Nat.le_of_ble_eq_true rfl) dJ1_charAt_3b067_3) (fun H locs hP hS => ?_)
  refine lv_aload_n hx hb dJ1_charAt_3b067_6 rfl (lv_at hl 0 rfl) ?_
  refine lv_iload_n hx hb dJ1_charAt_3b067_7 rfl (lv_at hl 1 rfl) ?_
  refine va_tb hx hb h0.2.2.2 hS (zin_in hx1) rfl dJ1_charAt_3b067_8 ?_
  refine lv_sipush (v := 255) hx hb dJ1_charAt_3b067_9 (by decide) ?_
  refine lv_iand hx hb dJ1_charAt_3b067_12 ?_
  refine lv_i2c hx hb dJ1_charAt_3b067_13 rfl ?_
  exact z_zret X hP hS hr hlocks (pk_nc _) rfl dJ1_charAt_3b067_14
set_option maxHeartbeats 4000000 in
set_option maxRecDepth 100000 in
theorem cJcat {l : Launch} {D : va_G} {a : Nat → Nat} {cI cJ cC : ClassId} {adK adV : Nat → Nat} {w : Nat} {x : Int32} {s τ : ZS} {r : Int32} (h : fJcat w x s = some (r, τ)) : zMi (zcC a cI cJ cC) 41 a D [(cI, .int), (cJ, .long)] (zEC adK adV) l yJ0_charAt_5068e wsJ0_charAt_5068e rmJ3 [.ref (adK w), .int x] s r τ := by
  refine z_start (cc := cJ0_charAt_5068e) (maxL := 2) (ret := (some .char)) RJ0 rfl (by decide) rfl (Nat.le_of_ble_eq_true rfl) ?_
  intro p e st m args below meth c ls H locs X hr hlocks hA hE hP hS hl
  obtain ⟨hx, hb, hml, hown, hts, -⟩ := id X
  have hG := zEC_good adK adV
  have hl : lv_has ls 2 [(0, .ref (adK w)), (1, .int x)] := hl
  obtain ⟨g1, h⟩ := zg_some h
  obtain ⟨g2, h⟩ := zg_some h
  have hw : w < 7 := of_decide_eq_true g1
  have h0 := hE.2.1.1 w hw
  refine lv_aload_n hx hb dJ0_charAt_5068e_0 rfl (lv_at hl 0 rfl) ?_
  refine z_calli hS (z_runVr (As := []) (rest := []) X hG hA hE hP hS (cJlatin (l := l) (D := D) (a := a) (cI := cI) (cJ := cJ) (cC := cC) (adK := adK) (adV := adV) (s := s) hw _) (cwV 0 hts gJ0_charAt_5068e_J0_isLatin1_aae02 rfl rfl rfl (by decide +kernel) ⟨Nat.le_of_ble_eq_true rfl, Nat.le_of_ble_eq_true rfl⟩) (vk_recv hE.2.1 hw hS) rfl hl.1 rfl (Nat.le_of_ble_eq_true rfl) dJ0_charAt_5068e_1) (fun H locs hP hS => ?_)
  refine lv_if_eq (tgt := 16) hx hb dJ0_charAt_5068e_4 (by decide) (fun c1 => absurd c1 (by decide)) (fun c1 => ?_)
  refine lv_aload_n hx hb dJ0_charAt_5068e_7 rfl (lv_at hl 0 rfl) ?_
  refine vk_getf hx hb h0.2.2.1 hS hown (hts (.fieldLink RJ0 9 "java/lang/String" "value" "[B") (by decide +kernel)) (fun _ h9 => h9) dJ0_charAt_5068e_8 ?_
  refine lv_iload_n hx hb dJ0_charAt_5068e_11 rfl (lv_at hl 1 rfl) ?_
  refine z_calli hS (z_runS (As := [.ref (adV w), .int x]) (rest := []) X hG hA hE hP hS (cJlcat (l := l) (D := D) (a := a) (cI := cI) (cJ := cJ) (cC := cC) (adK := adK) (adV := adV) (s := s) hw g2 _) (va_cwS 2 hts gJ0_charAt_5068e_J1_charAt_3b067 rfl rfl rfl (by decide +kernel) ⟨Nat.le_of_ble_eq_true rfl, Nat.le_of_ble_eq_true rfl⟩) rfl hl.1 rfl (Nat.le_of_ble_eq_true rfl) dJ0_charAt_5068e_12) (fun H locs hP hS => ?_)
  exact z_zret X hP hS hr hlocks (pk_nc _) h dJ0_charAt_5068e_15
theorem fJlen_w {w : Nat} {s : ZS} {x : Int32 × ZS} (h : fJlen w s = some x) : w < 7 := of_decide_eq_true (zg_some h).1
theorem fJcat_w {w : Nat} {i : Int32} {s : ZS} {x : Int32 × ZS} (h : fJcat w i s = some x) : w < 7 := of_decide_eq_true (zg_some h).1
