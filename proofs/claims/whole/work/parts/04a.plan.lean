def ql_pw (h : Nat) (ad : Nat → Nat) (cI : ClassId) (z : ql_St) : va_W := [(h, .inr (6, [.ref (ad 0), .ref (ad 1), .ref (ad 2), .int (z 3 0), .ref (ad 4), .ref (ad 5), .int (z 6 0), .ref (ad 7), .ref (ad 8), .int (z 9 0)])), (ad 0, .inl (cI, 300, .inl (z 0))), (ad 1, .inl (cI, 300, .inl (z 1))), (ad 2, .inl (cI, 300, .inl (z 2))), (ad 4, .inl (cI, 17, .inl (z 4))), (ad 5, .inl (cI, 17, .inl (z 5))), (ad 7, .inl (cI, 68, .inl (z 7))), (ad 8, .inl (cI, 17, .inl (z 8)))]
/-! ===== java/lang/Integer.bitCount(I)I ===== -/
abbrev rm_J6_bitCount_0f7a4 : Room := { frames := 0, cells := 0, slots := 0, locals := 0 }
theorem qd_J6_bitCount_0f7a4 : yJ6_bitCount_0f7a4.cls ≠ "java/lang/invoke/MethodHandle" ∧ yJ6_bitCount_0f7a4.cls ≠ "java/lang/invoke/VarHandle" ∧ (parseMethodDescriptor yJ6_bitCount_0f7a4.desc).map (fun d => d.parameters.length) = some 1 := by decide +kernel
def f_J6_bitCount_0f7a4_0 (N : Nat) (x0 : Int32) : Option (Int32) := (some (x0 - ((x0.toUInt32 >>> ((1 : Int32).toUInt32 &&& Int32.toUInt32 31)).toInt32 &&& 1431655765))).bind fun v1 => (some ((v1 &&& 858993459) + ((v1.toUInt32 >>> ((2 : Int32).toUInt32 &&& Int32.toUInt32 31)).toInt32 &&& 858993459))).bind fun v2 => (some ((v2 + (v2.toUInt32 >>> ((4 : Int32).toUInt32 &&& Int32.toUInt32 31)).toInt32) &&& 252645135)).bind fun v3 => (some ((v3 + (v3.toUInt32 >>> ((8 : Int32).toUInt32 &&& Int32.toUInt32 31)).toInt32) + ((v3 + (v3.toUInt32 >>> ((8 : Int32).toUInt32 &&& Int32.toUInt32 31)).toInt32).toUInt32 >>> ((16 : Int32).toUInt32 &&& Int32.toUInt32 31)).toInt32)).bind fun v4 => some (v4 &&& 63)
def f_J6_bitCount_0f7a4 (N : Nat) (x0 : Int32) : Option (Int32) := f_J6_bitCount_0f7a4_0 N x0
set_option maxHeartbeats 4000000 in
set_option maxRecDepth 100000 in
theorem w_J6_bitCount_0f7a4_0 {p : Program} {l : Launch} {e : Env} {s : State} {m : MethodId} {args : Array Value} {below : List Frame} {meth : Method} {c : Code} {dC : Nat → ClassId} {dI : Nat → Nat → Nat} {A : Nat → Prop} {res : Int32} (C0 : ql_C p s m args meth c cJ6_bitCount_0f7a4 1 (some .int) wsJ6_bitCount_0f7a4 RJ6 (dC, dI) [] A) (N : Nat) : ∀ (x0 : Int32), f_J6_bitCount_0f7a4_0 N x0 = some res → ∀ (H : Heap) (locs : List Loc) (ls : Array Slot), va_S A s.heap H locs → lv_has ls 1 [(0, .int x0)] → W p l e rm_J6_bitCount_0f7a4 s m args below meth c H locs 0 0 (ql_Qri below A args s res) (F0 m 0 ls []) := by
  have C0q := C0
  obtain ⟨hx, hb, hr, hml, hown, hts, hlocks, hK, hA⟩ := C0q
  have fl265 := hts (Cond.constant RJ6 265 (1431655765)) (by decide +kernel)
  have fl266 := hts (Cond.constant RJ6 266 (858993459)) (by decide +kernel)
  have fl267 := hts (Cond.constant RJ6 267 (252645135)) (by decide +kernel)
  intro x0 hf H locs ls hS hl
  unfold f_J6_bitCount_0f7a4_0 at hf
  refine lv_iload_n hx hb dJ6_bitCount_0f7a4_0 rfl (lv_at hl 0 rfl) ?_
  refine lv_iload_n hx hb dJ6_bitCount_0f7a4_1 rfl (lv_at hl 0 rfl) ?_
  refine lv_iconst (v := 1) hx hb dJ6_bitCount_0f7a4_2 (by decide) ?_
  refine lv_iushr hx hb dJ6_bitCount_0f7a4_3 rfl ?_
  refine lv_ldcw hx hb hown fl265 dJ6_bitCount_0f7a4_4 ?_
  refine lv_iand hx hb dJ6_bitCount_0f7a4_7 ?_
  refine lv_isub hx hb dJ6_bitCount_0f7a4_8 ?_
  obtain ⟨v1, hv1, hf⟩ := ql_bd hf
  refine ql_tv (y := v1) (Option.some.inj hv1) ?_
  refine lv_istore_n (lv' := [(0, .int v1)]) hx hb dJ6_bitCount_0f7a4_9 rfl hl (by decide) rfl (fun ls hl => ?_)
  refine lv_iload_n hx hb dJ6_bitCount_0f7a4_10 rfl (lv_at hl 0 rfl) ?_
  refine lv_ldcw hx hb hown fl266 dJ6_bitCount_0f7a4_11 ?_
  refine lv_iand hx hb dJ6_bitCount_0f7a4_14 ?_
  refine lv_iload_n hx hb dJ6_bitCount_0f7a4_15 rfl (lv_at hl 0 rfl) ?_
  refine lv_iconst (v := 2) hx hb dJ6_bitCount_0f7a4_16 (by decide) ?_
  refine lv_iushr hx hb dJ6_bitCount_0f7a4_17 rfl ?_
  refine lv_ldcw hx hb hown fl266 dJ6_bitCount_0f7a4_18 ?_
  refine lv_iand hx hb dJ6_bitCount_0f7a4_21 ?_
  refine lv_iadd hx hb dJ6_bitCount_0f7a4_22 ?_
  obtain ⟨v2, hv2, hf⟩ := ql_bd hf
  refine ql_tv (y := v2) (Option.some.inj hv2) ?_
  refine lv_istore_n (lv' := [(0, .int v2)]) hx hb dJ6_bitCount_0f7a4_23 rfl hl (by decide) rfl (fun ls hl => ?_)
  refine lv_iload_n hx hb dJ6_bitCount_0f7a4_24 rfl (lv_at hl 0 rfl) ?_
  refine lv_iload_n hx hb dJ6_bitCount_0f7a4_25 rfl (lv_at hl 0 rfl) ?_
  refine lv_iconst (v := 4) hx hb dJ6_bitCount_0f7a4_26 (by decide) ?_
  refine lv_iushr hx hb dJ6_bitCount_0f7a4_27 rfl ?_
  refine lv_iadd hx hb dJ6_bitCount_0f7a4_28 ?_
  refine lv_ldcw hx hb hown fl267 dJ6_bitCount_0f7a4_29 ?_
  refine lv_iand hx hb dJ6_bitCount_0f7a4_32 ?_
  obtain ⟨v3, hv3, hf⟩ := ql_bd hf
  refine ql_tv (y := v3) (Option.some.inj hv3) ?_
  refine lv_istore_n (lv' := [(0, .int v3)]) hx hb dJ6_bitCount_0f7a4_33 rfl hl (by decide) rfl (fun ls hl => ?_)
  refine lv_iload_n hx hb dJ6_bitCount_0f7a4_34 rfl (lv_at hl 0 rfl) ?_
  refine lv_iload_n hx hb dJ6_bitCount_0f7a4_35 rfl (lv_at hl 0 rfl) ?_
  refine lv_bipush (v := 8) hx hb dJ6_bitCount_0f7a4_36 (by decide) ?_
  refine lv_iushr hx hb dJ6_bitCount_0f7a4_38 rfl ?_
  refine lv_iadd hx hb dJ6_bitCount_0f7a4_39 ?_
  refine lv_istore_n (lv' := [(0, .int (v3 + (v3.toUInt32 >>> ((8 : Int32).toUInt32 &&& Int32.toUInt32 31)).toInt32))]) hx hb dJ6_bitCount_0f7a4_40 rfl hl (by decide) rfl (fun ls hl => ?_)
  refine lv_iload_n hx hb dJ6_bitCount_0f7a4_41 rfl (lv_at hl 0 rfl) ?_
  refine lv_iload_n hx hb dJ6_bitCount_0f7a4_42 rfl (lv_at hl 0 rfl) ?_
  refine lv_bipush (v := 16) hx hb dJ6_bitCount_0f7a4_43 (by decide) ?_
  refine lv_iushr hx hb dJ6_bitCount_0f7a4_45 rfl ?_
  refine lv_iadd hx hb dJ6_bitCount_0f7a4_46 ?_
  obtain ⟨v4, hv4, hf⟩ := ql_bd hf
  refine ql_tv (y := v4) (Option.some.inj hv4) ?_
  refine lv_istore_n (lv' := [(0, .int v4)]) hx hb dJ6_bitCount_0f7a4_47 rfl hl (by decide) rfl (fun ls hl => ?_)
  refine lv_iload_n hx hb dJ6_bitCount_0f7a4_48 rfl (lv_at hl 0 rfl) ?_
  refine lv_bipush (v := 63) hx hb dJ6_bitCount_0f7a4_49 (by decide) ?_
  refine lv_iand hx hb dJ6_bitCount_0f7a4_51 ?_
  exact ql_riret C0 hf hS dJ6_bitCount_0f7a4_52
set_option maxRecDepth 100000 in
theorem c_J6_bitCount_0f7a4 (l : Launch) (dC : Nat → ClassId) (dI : Nat → Nat → Nat) (N : Nat) (x0 : Int32) (res : Int32) (hf : f_J6_bitCount_0f7a4 N x0 = some res) : ql_Ri l yJ6_bitCount_0f7a4 wsJ6_bitCount_0f7a4 rm_J6_bitCount_0f7a4 (dC, dI) [] ([]) [.int x0] res :=
  ql_start_ri (by decide) rfl (Nat.le_of_ble_eq_true rfl) (fun p e s m below meth c A ls C0 hl hP hS => w_J6_bitCount_0f7a4_0 C0 N x0 hf s.heap [] ls hS (lv_sub (show lv_has ls 1 [(0, .int x0)] from hl) [0] rfl))
/-! ===== TestedLoops.holds(II)Z ===== -/
abbrev rm_X10_holds : Room := { frames := 0, cells := 0, slots := 0, locals := 0 }
theorem qd_X10_holds : yX10_holds.cls ≠ "java/lang/invoke/MethodHandle" ∧ yX10_holds.cls ≠ "java/lang/invoke/VarHandle" ∧ (parseMethodDescriptor yX10_holds.desc).map (fun d => d.parameters.length) = some 2 := by decide +kernel
def f_X10_holds_0 (N : Nat) (x0 : Int32) (x1 : Int32) : Option (Int32) := if ((x0 >>> (x1 &&& 31)) &&& 1) = 1 then some 1 else some 0
def f_X10_holds (N : Nat) (x0 : Int32) (x1 : Int32) : Option (Int32) := f_X10_holds_0 N x0 x1
set_option maxHeartbeats 4000000 in
set_option maxRecDepth 100000 in
theorem w_X10_holds_0 {p : Program} {l : Launch} {e : Env} {s : State} {m : MethodId} {args : Array Value} {below : List Frame} {meth : Method} {c : Code} {dC : Nat → ClassId} {dI : Nat → Nat → Nat} {A : Nat → Prop} {res : Int32} (C0 : ql_C p s m args meth c cX10_holds 2 (some .boolean) wsX10_holds RX10 (dC, dI) [] A) (N : Nat) : ∀ (x0 : Int32) (x1 : Int32), f_X10_holds_0 N x0 x1 = some res → ∀ (H : Heap) (locs : List Loc) (ls : Array Slot), va_S A s.heap H locs → lv_has ls 2 [(0, .int x0), (1, .int x1)] → W p l e rm_X10_holds s m args below meth c H locs 0 0 (ql_Qri below A args s res) (F0 m 0 ls []) := by
  have C0q := C0
  obtain ⟨hx, hb, hr, hml, hown, hts, hlocks, hK, hA⟩ := C0q
  intro x0 x1 hf H locs ls hS hl
  unfold f_X10_holds_0 at hf
  refine lv_iload_n hx hb dX10_holds_0 rfl (lv_at hl 0 rfl) ?_
  refine lv_iload_n hx hb dX10_holds_1 rfl (lv_at hl 1 rfl) ?_
  refine lv_ishr hx hb dX10_holds_2 ?_
  refine lv_iconst (v := 1) hx hb dX10_holds_3 (by decide) ?_
  refine lv_iand hx hb dX10_holds_4 ?_
  refine lv_iconst (v := 1) hx hb dX10_holds_5 (by decide) ?_
  refine lv_icmp_ne (tgt := 13) hx hb dX10_holds_6 (by decide) (fun c1 => ?_) (fun c1 => ?_)
  · have hf := (if_neg c1).symm.trans hf
    refine lv_iconst (v := 0) hx hb dX10_holds_13 (by decide) ?_
    exact ql_rzret C0 (Or.inl rfl) hf hS dX10_holds_14
  · have hf := (if_pos c1).symm.trans hf
    refine lv_iconst (v := 1) hx hb dX10_holds_9 (by decide) ?_
    refine lv_goto (tgt := 14) hx hb dX10_holds_10 (by decide) ?_
    exact ql_rzret C0 (Or.inr rfl) hf hS dX10_holds_14
set_option maxRecDepth 100000 in
theorem c_X10_holds (l : Launch) (dC : Nat → ClassId) (dI : Nat → Nat → Nat) (N : Nat) (x0 : Int32) (x1 : Int32) (res : Int32) (hf : f_X10_holds N x0 x1 = some res) : ql_Ri l yX10_holds wsX10_holds rm_X10_holds (dC, dI) [] ([]) [.int x0, .int x1] res :=
  ql_start_ri (by decide) rfl (Nat.le_of_ble_eq_true rfl) (fun p e s m below meth c A ls C0 hl hP hS => w_X10_holds_0 C0 N x0 x1 hf s.heap [] ls hS (lv_sub (show lv_has ls 2 [(0, .int x0), (1, .int x1)] from hl) [0, 1] rfl))
/-! ===== TestedLoops.isProgram(I)Z ===== -/
abbrev rm_X10_isProgram : Room := { frames := 0, cells := 0, slots := 0, locals := 0 }
theorem qd_X10_isProgram : yX10_isProgram.cls ≠ "java/lang/invoke/MethodHandle" ∧ yX10_isProgram.cls ≠ "java/lang/invoke/VarHandle" ∧ (parseMethodDescriptor yX10_isProgram.desc).map (fun d => d.parameters.length) = some 1 := by decide +kernel
def f_X10_isProgram_0 (N : Nat) (x0 : Int32) : Option (Int32) := if x0 < 0 then some 0 else if 4 ≤ x0 then some 0 else some 1
def f_X10_isProgram (N : Nat) (x0 : Int32) : Option (Int32) := f_X10_isProgram_0 N x0
set_option maxHeartbeats 4000000 in
set_option maxRecDepth 100000 in
theorem w_X10_isProgram_0 {p : Program} {l : Launch} {e : Env} {s : State} {m : MethodId} {args : Array Value} {below : List Frame} {meth : Method} {c : Code} {dC : Nat → ClassId} {dI : Nat → Nat → Nat} {A : Nat → Prop} {res : Int32} (C0 : ql_C p s m args meth c cX10_isProgram 1 (some .boolean) wsX10_isProgram RX10 (dC, dI) [] A) (N : Nat) : ∀ (x0 : Int32), f_X10_isProgram_0 N x0 = some res → ∀ (H : Heap) (locs : List Loc) (ls : Array Slot), va_S A s.heap H locs → lv_has ls 1 [(0, .int x0)] → W p l e rm_X10_isProgram s m args below meth c H locs 0 0 (ql_Qri below A args s res) (F0 m 0 ls []) := by
  have C0q := C0
  obtain ⟨hx, hb, hr, hml, hown, hts, hlocks, hK, hA⟩ := C0q
  intro x0 hf H locs ls hS hl
  unfold f_X10_isProgram_0 at hf
  refine lv_iload_n hx hb dX10_isProgram_0 rfl (lv_at hl 0 rfl) ?_
  refine lv_if_lt (tgt := 13) hx hb dX10_isProgram_1 (by decide) (fun c1 => ?_) (fun c1 => ?_)
  · have hf := (if_pos c1).symm.trans hf
    refine lv_iconst (v := 0) hx hb dX10_isProgram_13 (by decide) ?_
    exact ql_rzret C0 (Or.inl rfl) hf hS dX10_isProgram_14
  · have hf := (if_neg c1).symm.trans hf
    refine lv_iload_n hx hb dX10_isProgram_4 rfl (lv_at hl 0 rfl) ?_
    refine lv_iconst (v := 4) hx hb dX10_isProgram_5 (by decide) ?_
    refine lv_icmp_ge (tgt := 13) hx hb dX10_isProgram_6 (by decide) (fun c2 => ?_) (fun c2 => ?_)
    · have hf := (if_pos c2).symm.trans hf
      refine lv_iconst (v := 0) hx hb dX10_isProgram_13 (by decide) ?_
      exact ql_rzret C0 (Or.inl rfl) hf hS dX10_isProgram_14
    · have hf := (if_neg c2).symm.trans hf
      refine lv_iconst (v := 1) hx hb dX10_isProgram_9 (by decide) ?_
      refine lv_goto (tgt := 14) hx hb dX10_isProgram_10 (by decide) ?_
      exact ql_rzret C0 (Or.inr rfl) hf hS dX10_isProgram_14
set_option maxRecDepth 100000 in
theorem c_X10_isProgram (l : Launch) (dC : Nat → ClassId) (dI : Nat → Nat → Nat) (N : Nat) (x0 : Int32) (res : Int32) (hf : f_X10_isProgram N x0 = some res) : ql_Ri l yX10_isProgram wsX10_isProgram rm_X10_isProgram (dC, dI) [] ([]) [.int x0] res :=
  ql_start_ri (by decide) rfl (Nat.le_of_ble_eq_true rfl) (fun p e s m below meth c A ls C0 hl hP hS => w_X10_isProgram_0 C0 N x0 hf s.heap [] ls hS (lv_sub (show lv_has ls 1 [(0, .int x0)] from hl) [0] rfl))
/-! ===== TestedLoops$Plan.isPlace(I)Z ===== -/
abbrev rm_X6_isPlace : Room := { frames := 0, cells := 0, slots := 0, locals := 0 }
theorem iw_X6_isPlace_X6 : ∀ w ∈ wsX60, w ∈ wsX6_isPlace := fun w h => List.mem_cons_of_mem _ (List.mem_append_right _ h)
theorem qv_X6_isPlace : yX6_isPlace.cls = RX6 ∧ yX6_isPlace.cls ≠ "java/lang/invoke/MethodHandle" ∧ yX6_isPlace.cls ≠ "java/lang/invoke/VarHandle" ∧ (parseMethodDescriptor yX6_isPlace.desc).map (fun d => d.parameters.length) = some 1 := by decide +kernel
def f_X6_isPlace_0 (N : Nat) (z : ql_St) (x1 : Int32) : Option (Int32) := if x1 ≤ 0 then some 0 else if (z 6 0) < x1 then some 0 else some 1
def f_X6_isPlace (N : Nat) (z : ql_St) (x1 : Int32) : Option (Int32) := f_X6_isPlace_0 N z x1
set_option maxHeartbeats 4000000 in
set_option maxRecDepth 100000 in
theorem w_X6_isPlace_0 {p : Program} {l : Launch} {e : Env} {s : State} {m : MethodId} {args : Array Value} {below : List Frame} {meth : Method} {c : Code} {dC : Nat → ClassId} {dI : Nat → Nat → Nat} {A : Nat → Prop} {h : Nat} {ad : Nat → Nat} {cI : ClassId} {res : Int32} (C0 : ql_C p s m args meth c cX6_isPlace 2 (some .boolean) wsX6_isPlace RX6 (dC, dI) [(cI, .int)] A) (N : Nat) (z : ql_St) : ∀ (x1 : Int32), f_X6_isPlace_0 N z x1 = some res → ∀ (H : Heap) (locs : List Loc) (ls : Array Slot), va_P (dC, dI) vwCl ((ql_pw h ad cI) z) H → va_S A s.heap H locs → lv_has ls 2 [(0, .ref h), (1, .int x1)] → W p l e rm_X6_isPlace s m args below meth c H locs 0 0 (ql_Qri below A args s res) (F0 m 0 ls []) := by
  have C0q := C0
  obtain ⟨hx, hb, hr, hml, hown, hts, hlocks, hK, hA⟩ := C0q
  have fl44 := hts (Cond.fieldLink RX6 44 "TestedLoops$Plan" "places" "I") (by decide +kernel)
  intro x1 hf H locs ls hP hS hl
  unfold f_X6_isPlace_0 at hf
  refine lv_iload_n hx hb dX6_isPlace_0 rfl (lv_at hl 1 rfl) ?_
  refine lv_if_le (tgt := 16) hx hb dX6_isPlace_1 (by decide) (fun c1 => ?_) (fun c1 => ?_)
  · have hf := (if_pos c1).symm.trans hf
    refine lv_iconst (v := 0) hx hb dX6_isPlace_16 (by decide) ?_
    exact ql_rzret C0 (Or.inl rfl) hf hS dX6_isPlace_17
  · have hf := (if_neg c1).symm.trans hf
    refine lv_iload_n hx hb dX6_isPlace_4 rfl (lv_at hl 1 rfl) ?_
    refine lv_aload_n hx hb dX6_isPlace_5 rfl (lv_at hl 0 rfl) ?_
    refine va_get (D := (dC, dI)) (ci := 6) (v := .int (z 6 0)) (C := RX6) (T := TX6) (N := 10) hx hb hts iw_X6_isPlace_X6 hown hK.1 hP 0 rfl rfl 6 (by decide) fl44 (fun _ h9 => h9) rfl dX6_isPlace_6 ?_
    refine lv_icmp_gt (tgt := 16) hx hb dX6_isPlace_9 (by decide) (fun c2 => ?_) (fun c2 => ?_)
    · have hf := (if_pos c2).symm.trans hf
      refine lv_iconst (v := 0) hx hb dX6_isPlace_16 (by decide) ?_
      exact ql_rzret C0 (Or.inl rfl) hf hS dX6_isPlace_17
    · have hf := (if_neg c2).symm.trans hf
      refine lv_iconst (v := 1) hx hb dX6_isPlace_12 (by decide) ?_
      refine lv_goto (tgt := 17) hx hb dX6_isPlace_13 (by decide) ?_
      exact ql_rzret C0 (Or.inr rfl) hf hS dX6_isPlace_17
set_option maxRecDepth 100000 in
theorem c_X6_isPlace (l : Launch) (dC : Nat → ClassId) (dI : Nat → Nat → Nat) (h : Nat) (ad : Nat → Nat) (cI : ClassId) (N : Nat) (z : ql_St) (x1 : Int32) (res : Int32) (hf : f_X6_isPlace N z x1 = some res) : ql_Ri l yX6_isPlace wsX6_isPlace rm_X6_isPlace (dC, dI) [(cI, .int)] ((ql_pw h ad cI) z) [.ref h, .int x1] res :=
  ql_start_ri (by decide) rfl (Nat.le_of_ble_eq_true rfl) (fun p e s m below meth c A ls C0 hl hP hS => w_X6_isPlace_0 C0 N z x1 hf s.heap [] ls hP hS (lv_sub (show lv_has ls 2 [(0, .ref h), (1, .int x1)] from hl) [0, 1] rfl))
/-! ===== TestedLoops$Plan.canGoFrom(I)Z ===== -/
abbrev rm_X6_canGoFrom : Room := { frames := 0, cells := 0, slots := 0, locals := 0 }
theorem iw_X6_canGoFrom_X6 : ∀ w ∈ wsX60, w ∈ wsX6_canGoFrom := fun w h => List.mem_cons_of_mem _ (List.mem_append_right _ h)
theorem qv_X6_canGoFrom : yX6_canGoFrom.cls = RX6 ∧ yX6_canGoFrom.cls ≠ "java/lang/invoke/MethodHandle" ∧ yX6_canGoFrom.cls ≠ "java/lang/invoke/VarHandle" ∧ (parseMethodDescriptor yX6_canGoFrom.desc).map (fun d => d.parameters.length) = some 1 := by decide +kernel
def f_X6_canGoFrom_0 (N : Nat) (z : ql_St) (x1 : Int32) : Option (Int32) := if x1 < 0 then some 0 else if (z 6 0) < x1 then some 0 else some 1
def f_X6_canGoFrom (N : Nat) (z : ql_St) (x1 : Int32) : Option (Int32) := f_X6_canGoFrom_0 N z x1
set_option maxHeartbeats 4000000 in
set_option maxRecDepth 100000 in
theorem w_X6_canGoFrom_0 {p : Program} {l : Launch} {e : Env} {s : State} {m : MethodId} {args : Array Value} {below : List Frame} {meth : Method} {c : Code} {dC : Nat → ClassId} {dI : Nat → Nat → Nat} {A : Nat → Prop} {h : Nat} {ad : Nat → Nat} {cI : ClassId} {res : Int32} (C0 : ql_C p s m args meth c cX6_canGoFrom 2 (some .boolean) wsX6_canGoFrom RX6 (dC, dI) [(cI, .int)] A) (N : Nat) (z : ql_St) : ∀ (x1 : Int32), f_X6_canGoFrom_0 N z x1 = some res → ∀ (H : Heap) (locs : List Loc) (ls : Array Slot), va_P (dC, dI) vwCl ((ql_pw h ad cI) z) H → va_S A s.heap H locs → lv_has ls 2 [(0, .ref h), (1, .int x1)] → W p l e rm_X6_canGoFrom s m args below meth c H locs 0 0 (ql_Qri below A args s res) (F0 m 0 ls []) := by
  have C0q := C0
  obtain ⟨hx, hb, hr, hml, hown, hts, hlocks, hK, hA⟩ := C0q
  have fl44 := hts (Cond.fieldLink RX6 44 "TestedLoops$Plan" "places" "I") (by decide +kernel)
  intro x1 hf H locs ls hP hS hl
  unfold f_X6_canGoFrom_0 at hf
  refine lv_iload_n hx hb dX6_canGoFrom_0 rfl (lv_at hl 1 rfl) ?_
  refine lv_if_lt (tgt := 16) hx hb dX6_canGoFrom_1 (by decide) (fun c1 => ?_) (fun c1 => ?_)
  · have hf := (if_pos c1).symm.trans hf
    refine lv_iconst (v := 0) hx hb dX6_canGoFrom_16 (by decide) ?_
    exact ql_rzret C0 (Or.inl rfl) hf hS dX6_canGoFrom_17
  · have hf := (if_neg c1).symm.trans hf
    refine lv_iload_n hx hb dX6_canGoFrom_4 rfl (lv_at hl 1 rfl) ?_
    refine lv_aload_n hx hb dX6_canGoFrom_5 rfl (lv_at hl 0 rfl) ?_
    refine va_get (D := (dC, dI)) (ci := 6) (v := .int (z 6 0)) (C := RX6) (T := TX6) (N := 10) hx hb hts iw_X6_canGoFrom_X6 hown hK.1 hP 0 rfl rfl 6 (by decide) fl44 (fun _ h9 => h9) rfl dX6_canGoFrom_6 ?_
    refine lv_icmp_gt (tgt := 16) hx hb dX6_canGoFrom_9 (by decide) (fun c2 => ?_) (fun c2 => ?_)
    · have hf := (if_pos c2).symm.trans hf
      refine lv_iconst (v := 0) hx hb dX6_canGoFrom_16 (by decide) ?_
      exact ql_rzret C0 (Or.inl rfl) hf hS dX6_canGoFrom_17
    · have hf := (if_neg c2).symm.trans hf
      refine lv_iconst (v := 1) hx hb dX6_canGoFrom_12 (by decide) ?_
      refine lv_goto (tgt := 17) hx hb dX6_canGoFrom_13 (by decide) ?_
      exact ql_rzret C0 (Or.inr rfl) hf hS dX6_canGoFrom_17
set_option maxRecDepth 100000 in
theorem c_X6_canGoFrom (l : Launch) (dC : Nat → ClassId) (dI : Nat → Nat → Nat) (h : Nat) (ad : Nat → Nat) (cI : ClassId) (N : Nat) (z : ql_St) (x1 : Int32) (res : Int32) (hf : f_X6_canGoFrom N z x1 = some res) : ql_Ri l yX6_canGoFrom wsX6_canGoFrom rm_X6_canGoFrom (dC, dI) [(cI, .int)] ((ql_pw h ad cI) z) [.ref h, .int x1] res :=
  ql_start_ri (by decide) rfl (Nat.le_of_ble_eq_true rfl) (fun p e s m below meth c A ls C0 hl hP hS => w_X6_canGoFrom_0 C0 N z x1 hf s.heap [] ls hP hS (lv_sub (show lv_has ls 2 [(0, .ref h), (1, .int x1)] from hl) [0, 1] rfl))
/-! ===== TestedLoops$Plan.actAt(I)I ===== -/
abbrev rm_X6_actAt : Room := { frames := 1, cells := 0, slots := 0, locals := 21 }
theorem iw_X6_actAt_X6 : ∀ w ∈ wsX60, w ∈ wsX6_actAt := fun w h => List.mem_cons_of_mem _ (List.mem_append_right _ h)
theorem qv_X6_actAt : yX6_actAt.cls = RX6 ∧ yX6_actAt.cls ≠ "java/lang/invoke/MethodHandle" ∧ yX6_actAt.cls ≠ "java/lang/invoke/VarHandle" ∧ (parseMethodDescriptor yX6_actAt.desc).map (fun d => d.parameters.length) = some 1 := by decide +kernel
def f_X6_actAt_0 (N : Nat) (z : ql_St) (x1 : Int32) : Option (Int32) := (f_X6_isPlace N z x1).bind fun u1 => if u1 = 0 then some 0 else if ql_ib x1 17 = true then some ((z 5) x1.toNatClampNeg) else none
def f_X6_actAt (N : Nat) (z : ql_St) (x1 : Int32) : Option (Int32) := f_X6_actAt_0 N z x1
set_option maxHeartbeats 4000000 in
set_option maxRecDepth 100000 in
theorem w_X6_actAt_0 {p : Program} {l : Launch} {e : Env} {s : State} {m : MethodId} {args : Array Value} {below : List Frame} {meth : Method} {c : Code} {dC : Nat → ClassId} {dI : Nat → Nat → Nat} {A : Nat → Prop} {h : Nat} {ad : Nat → Nat} {cI : ClassId} {res : Int32} (C0 : ql_C p s m args meth c cX6_actAt 2 (some .int) wsX6_actAt RX6 (dC, dI) [(cI, .int)] A) (N : Nat) (z : ql_St) : ∀ (x1 : Int32), f_X6_actAt_0 N z x1 = some res → ∀ (H : Heap) (locs : List Loc) (ls : Array Slot), va_P (dC, dI) vwCl ((ql_pw h ad cI) z) H → va_S A s.heap H locs → lv_has ls 2 [(0, .ref h), (1, .int x1)] → W p l e rm_X6_actAt s m args below meth c H locs 0 0 (ql_Qri below A args s res) (F0 m 0 ls []) := by
  have C0q := C0
  obtain ⟨hx, hb, hr, hml, hown, hts, hlocks, hK, hA⟩ := C0q
  have fl24 := hts (Cond.fieldLink RX6 24 "TestedLoops$Plan" "actOf" "[I") (by decide +kernel)
  intro x1 hf H locs ls hP hS hl
  unfold f_X6_actAt_0 at hf
  refine lv_aload_n hx hb dX6_actAt_0 rfl (lv_at hl 0 rfl) ?_
  refine lv_iload_n hx hb dX6_actAt_1 rfl (lv_at hl 1 rfl) ?_
  obtain ⟨u1, hu1, hf⟩ := ql_bd hf
  refine ql_callRVi (As := [.int x1]) (rest := []) C0 (c_X6_isPlace l dC dI h ad cI N z x1 u1 hu1) (cwV 1 hts gX6_actAt_X6_isPlace rfl rfl rfl qv_X6_isPlace ⟨Nat.le_of_ble_eq_true rfl, Nat.le_of_ble_eq_true rfl⟩) (va_recv hK.1 hP (ci := 6) (q0 := 0) rfl rfl) hK hP hS hl.1 rfl rfl (Nat.le_of_ble_eq_true rfl) dX6_actAt_2 (fun H1 locs hk hS => ?_)
  have hP := ql_keep hP hk
  refine lv_if_eq (tgt := 17) hx hb dX6_actAt_5 (by decide) (fun c2 => ?_) (fun c2 => ?_)
  · have hf := (if_pos c2).symm.trans hf
    refine lv_iconst (v := 0) hx hb dX6_actAt_17 (by decide) ?_
    exact ql_riret C0 hf hS dX6_actAt_18
  · have hf := (if_neg c2).symm.trans hf
    refine lv_aload_n hx hb dX6_actAt_8 rfl (lv_at hl 0 rfl) ?_
    refine va_get (D := (dC, dI)) (ci := 6) (v := .ref (ad 5)) (C := RX6) (T := TX6) (N := 10) hx hb hts iw_X6_actAt_X6 hown hK.1 hP 0 rfl rfl 5 (by decide) fl24 (fun _ h9 => h9) rfl dX6_actAt_9 ?_
    refine lv_iload_n hx hb dX6_actAt_12 rfl (lv_at hl 1 rfl) ?_
    have g0 := ql_in (ql_gt hf)
    have hf := ql_gx hf
    refine va_iald (f := (z 5)) hx hb hK.1 hP 5 0 rfl rfl g0 dX6_actAt_13 ?_
    refine lv_goto (tgt := 18) hx hb dX6_actAt_14 (by decide) ?_
    exact ql_riret C0 hf hS dX6_actAt_18
set_option maxRecDepth 100000 in
theorem c_X6_actAt (l : Launch) (dC : Nat → ClassId) (dI : Nat → Nat → Nat) (h : Nat) (ad : Nat → Nat) (cI : ClassId) (N : Nat) (z : ql_St) (x1 : Int32) (res : Int32) (hf : f_X6_actAt N z x1 = some res) : ql_Ri l yX6_actAt wsX6_actAt rm_X6_actAt (dC, dI) [(cI, .int)] ((ql_pw h ad cI) z) [.ref h, .int x1] res :=
  ql_start_ri (by decide) rfl (Nat.le_of_ble_eq_true rfl) (fun p e s m below meth c A ls C0 hl hP hS => w_X6_actAt_0 C0 N z x1 hf s.heap [] ls hP hS (lv_sub (show lv_has ls 2 [(0, .ref h), (1, .int x1)] from hl) [0, 1] rfl))
/-! ===== TestedLoops$Plan.goes(II)I ===== -/
abbrev rm_X6_goes : Room := { frames := 1, cells := 0, slots := 0, locals := 21 }
theorem iw_X6_goes_X6 : ∀ w ∈ wsX60, w ∈ wsX6_goes := fun w h => List.mem_cons_of_mem _ (List.mem_append_right _ h)
theorem qv_X6_goes : yX6_goes.cls = RX6 ∧ yX6_goes.cls ≠ "java/lang/invoke/MethodHandle" ∧ yX6_goes.cls ≠ "java/lang/invoke/VarHandle" ∧ (parseMethodDescriptor yX6_goes.desc).map (fun d => d.parameters.length) = some 2 := by decide +kernel
def f_X6_goes_22 (N : Nat) (z : ql_St) (x1 : Int32) (x2 : Int32) (y0 : Int32) : Option (Int32) := if y0 = 0 then some (-9) else if ql_ib ((x1 * 4) + x2) 68 = true then some ((z 7) ((x1 * 4) + x2).toNatClampNeg) else none
def f_X6_goes_21 (N : Nat) (z : ql_St) (x1 : Int32) (x2 : Int32) : Option (Int32) := f_X6_goes_22 N z x1 x2 0
def f_X6_goes_0 (N : Nat) (z : ql_St) (x1 : Int32) (x2 : Int32) : Option (Int32) := (f_X6_canGoFrom N z x1).bind fun u2 => if u2 = 0 then f_X6_goes_21 N z x1 x2 else if x2 < 0 then f_X6_goes_21 N z x1 x2 else if 4 ≤ x2 then f_X6_goes_21 N z x1 x2 else f_X6_goes_22 N z x1 x2 1
def f_X6_goes (N : Nat) (z : ql_St) (x1 : Int32) (x2 : Int32) : Option (Int32) := f_X6_goes_0 N z x1 x2
set_option maxHeartbeats 4000000 in
set_option maxRecDepth 100000 in
theorem w_X6_goes_22 {p : Program} {l : Launch} {e : Env} {s : State} {m : MethodId} {args : Array Value} {below : List Frame} {meth : Method} {c : Code} {dC : Nat → ClassId} {dI : Nat → Nat → Nat} {A : Nat → Prop} {h : Nat} {ad : Nat → Nat} {cI : ClassId} {res : Int32} (C0 : ql_C p s m args meth c cX6_goes 4 (some .int) wsX6_goes RX6 (dC, dI) [(cI, .int)] A) (N : Nat) (z : ql_St) : ∀ (x1 : Int32) (x2 : Int32) (y0 : Int32), f_X6_goes_22 N z x1 x2 y0 = some res → ∀ (H : Heap) (locs : List Loc) (ls : Array Slot), va_P (dC, dI) vwCl ((ql_pw h ad cI) z) H → va_S A s.heap H locs → lv_has ls 4 [(0, .ref h), (1, .int x1), (2, .int x2)] → W p l e rm_X6_goes s m args below meth c H locs 0 0 (ql_Qri below A args s res) (F0 m 22 ls [.int y0]) := by
  have C0q := C0
  obtain ⟨hx, hb, hr, hml, hown, hts, hlocks, hK, hA⟩ := C0q
  have fl27 := hts (Cond.fieldLink RX6 27 "TestedLoops$Plan" "table" "[I") (by decide +kernel)
  intro x1 x2 y0 hf H locs ls hP hS hl
  unfold f_X6_goes_22 at hf
  refine lv_istore_n (lv' := [(3, .int y0), (0, .ref h), (1, .int x1), (2, .int x2)]) hx hb dX6_goes_22 rfl hl (by decide) rfl (fun ls hl => ?_)
  refine lv_iload_n hx hb dX6_goes_23 rfl (lv_at hl 0 rfl) ?_
  refine lv_if_eq (tgt := 40) hx hb dX6_goes_24 (by decide) (fun c1 => ?_) (fun c1 => ?_)
  · have hf := (if_pos c1).symm.trans hf
    refine lv_bipush (v := (-9)) hx hb dX6_goes_40 (by decide) ?_
    exact ql_riret C0 hf hS dX6_goes_42
  · have hf := (if_neg c1).symm.trans hf
    refine lv_aload_n hx hb dX6_goes_27 rfl (lv_at hl 1 rfl) ?_
    refine va_get (D := (dC, dI)) (ci := 6) (v := .ref (ad 7)) (C := RX6) (T := TX6) (N := 10) hx hb hts iw_X6_goes_X6 hown hK.1 hP 0 rfl rfl 7 (by decide) fl27 (fun _ h9 => h9) rfl dX6_goes_28 ?_
    refine lv_iload_n hx hb dX6_goes_31 rfl (lv_at hl 2 rfl) ?_
    refine lv_iconst (v := 4) hx hb dX6_goes_32 (by decide) ?_
    refine lv_imul hx hb dX6_goes_33 ?_
    refine lv_iload_n hx hb dX6_goes_34 rfl (lv_at hl 3 rfl) ?_
    refine lv_iadd hx hb dX6_goes_35 ?_
    have g0 := ql_in (ql_gt hf)
    have hf := ql_gx hf
    refine va_iald (f := (z 7)) hx hb hK.1 hP 6 0 rfl rfl g0 dX6_goes_36 ?_
    refine lv_goto (tgt := 42) hx hb dX6_goes_37 (by decide) ?_
    exact ql_riret C0 hf hS dX6_goes_42
set_option maxHeartbeats 4000000 in
set_option maxRecDepth 100000 in
theorem w_X6_goes_21 {p : Program} {l : Launch} {e : Env} {s : State} {m : MethodId} {args : Array Value} {below : List Frame} {meth : Method} {c : Code} {dC : Nat → ClassId} {dI : Nat → Nat → Nat} {A : Nat → Prop} {h : Nat} {ad : Nat → Nat} {cI : ClassId} {res : Int32} (C0 : ql_C p s m args meth c cX6_goes 4 (some .int) wsX6_goes RX6 (dC, dI) [(cI, .int)] A) (N : Nat) (z : ql_St) : ∀ (x1 : Int32) (x2 : Int32), f_X6_goes_21 N z x1 x2 = some res → ∀ (H : Heap) (locs : List Loc) (ls : Array Slot), va_P (dC, dI) vwCl ((ql_pw h ad cI) z) H → va_S A s.heap H locs → lv_has ls 4 [(0, .ref h), (1, .int x1), (2, .int x2)] → W p l e rm_X6_goes s m args below meth c H locs 0 0 (ql_Qri below A args s res) (F0 m 21 ls []) := by
  have C0q := C0
  obtain ⟨hx, hb, hr, hml, hown, hts, hlocks, hK, hA⟩ := C0q
  intro x1 x2 hf H locs ls hP hS hl
  unfold f_X6_goes_21 at hf
  refine lv_iconst (v := 0) hx hb dX6_goes_21 (by decide) ?_
  exact w_X6_goes_22 C0 N z _ _ _ hf _ _ _ hP hS (lv_sub hl [0, 1, 2] rfl)
set_option maxHeartbeats 4000000 in
set_option maxRecDepth 100000 in
theorem w_X6_goes_0 {p : Program} {l : Launch} {e : Env} {s : State} {m : MethodId} {args : Array Value} {below : List Frame} {meth : Method} {c : Code} {dC : Nat → ClassId} {dI : Nat → Nat → Nat} {A : Nat → Prop} {h : Nat} {ad : Nat → Nat} {cI : ClassId} {res : Int32} (C0 : ql_C p s m args meth c cX6_goes 4 (some .int) wsX6_goes RX6 (dC, dI) [(cI, .int)] A) (N : Nat) (z : ql_St) : ∀ (x1 : Int32) (x2 : Int32), f_X6_goes_0 N z x1 x2 = some res → ∀ (H : Heap) (locs : List Loc) (ls : Array Slot), va_P (dC, dI) vwCl ((ql_pw h ad cI) z) H → va_S A s.heap H locs → lv_has ls 4 [(0, .ref h), (1, .int x1), (2, .int x2)] → W p l e rm_X6_goes s m args below meth c H locs 0 0 (ql_Qri below A args s res) (F0 m 0 ls []) := by
  have C0q := C0
  obtain ⟨hx, hb, hr, hml, hown, hts, hlocks, hK, hA⟩ := C0q
  intro x1 x2 hf H locs ls hP hS hl
  unfold f_X6_goes_0 at hf
  refine lv_aload_n hx hb dX6_goes_0 rfl (lv_at hl 0 rfl) ?_
  refine lv_iload_n hx hb dX6_goes_1 rfl (lv_at hl 1 rfl) ?_
  obtain ⟨u2, hu2, hf⟩ := ql_bd hf
  refine ql_callRVi (As := [.int x1]) (rest := []) C0 (c_X6_canGoFrom l dC dI h ad cI N z x1 u2 hu2) (cwV 1 hts gX6_goes_X6_canGoFrom rfl rfl rfl qv_X6_canGoFrom ⟨Nat.le_of_ble_eq_true rfl, Nat.le_of_ble_eq_true rfl⟩) (va_recv hK.1 hP (ci := 6) (q0 := 0) rfl rfl) hK hP hS hl.1 rfl rfl (Nat.le_of_ble_eq_true rfl) dX6_goes_2 (fun H1 locs hk hS => ?_)
  have hP := ql_keep hP hk
  refine lv_if_eq (tgt := 21) hx hb dX6_goes_5 (by decide) (fun c3 => ?_) (fun c3 => ?_)
  · have hf := (if_pos c3).symm.trans hf
    exact w_X6_goes_21 C0 N z _ _ hf _ _ _ hP hS (lv_sub hl [0, 1, 2] rfl)
  · have hf := (if_neg c3).symm.trans hf
    refine lv_iload_n hx hb dX6_goes_8 rfl (lv_at hl 2 rfl) ?_
    refine lv_if_lt (tgt := 21) hx hb dX6_goes_9 (by decide) (fun c4 => ?_) (fun c4 => ?_)
    · have hf := (if_pos c4).symm.trans hf
      exact w_X6_goes_21 C0 N z _ _ hf _ _ _ hP hS (lv_sub hl [0, 1, 2] rfl)
    · have hf := (if_neg c4).symm.trans hf
      refine lv_iload_n hx hb dX6_goes_12 rfl (lv_at hl 2 rfl) ?_
      refine lv_iconst (v := 4) hx hb dX6_goes_13 (by decide) ?_
      refine lv_icmp_ge (tgt := 21) hx hb dX6_goes_14 (by decide) (fun c5 => ?_) (fun c5 => ?_)
      · have hf := (if_pos c5).symm.trans hf
        exact w_X6_goes_21 C0 N z _ _ hf _ _ _ hP hS (lv_sub hl [0, 1, 2] rfl)
      · have hf := (if_neg c5).symm.trans hf
        refine lv_iconst (v := 1) hx hb dX6_goes_17 (by decide) ?_
        refine lv_goto (tgt := 22) hx hb dX6_goes_18 (by decide) ?_
        exact w_X6_goes_22 C0 N z _ _ _ hf _ _ _ hP hS (lv_sub hl [0, 1, 2] rfl)
set_option maxRecDepth 100000 in
theorem c_X6_goes (l : Launch) (dC : Nat → ClassId) (dI : Nat → Nat → Nat) (h : Nat) (ad : Nat → Nat) (cI : ClassId) (N : Nat) (z : ql_St) (x1 : Int32) (x2 : Int32) (res : Int32) (hf : f_X6_goes N z x1 x2 = some res) : ql_Ri l yX6_goes wsX6_goes rm_X6_goes (dC, dI) [(cI, .int)] ((ql_pw h ad cI) z) [.ref h, .int x1, .int x2] res :=
  ql_start_ri (by decide) rfl (Nat.le_of_ble_eq_true rfl) (fun p e s m below meth c A ls C0 hl hP hS => w_X6_goes_0 C0 N z x1 x2 hf s.heap [] ls hP hS (lv_sub (show lv_has ls 4 [(0, .ref h), (1, .int x1), (2, .int x2)] from hl) [0, 1, 2] rfl))
/-! ===== TestedLoops$Plan.goesBy(III)I ===== -/
abbrev rm_X6_goesBy : Room := { frames := 2, cells := 0, slots := 0, locals := 44 }
theorem iw_X6_goesBy_X6 : ∀ w ∈ wsX60, w ∈ wsX6_goesBy := fun w h => List.mem_cons_of_mem _ (List.mem_append_right _ h)
theorem qv_X6_goesBy : yX6_goesBy.cls = RX6 ∧ yX6_goesBy.cls ≠ "java/lang/invoke/MethodHandle" ∧ yX6_goesBy.cls ≠ "java/lang/invoke/VarHandle" ∧ (parseMethodDescriptor yX6_goesBy.desc).map (fun d => d.parameters.length) = some 3 := by decide +kernel
def f_X6_goesBy_0 (N : Nat) (z : ql_St) (x1 : Int32) (x2 : Int32) (x3 : Int32) : Option (Int32) := (f_X6_goes N z x1 x2).bind fun u1 => (f_X6_actAt N z u1).bind fun u2 => if u2 = x3 then some u1 else some 17
def f_X6_goesBy (N : Nat) (z : ql_St) (x1 : Int32) (x2 : Int32) (x3 : Int32) : Option (Int32) := f_X6_goesBy_0 N z x1 x2 x3
set_option maxHeartbeats 4000000 in
set_option maxRecDepth 100000 in
theorem w_X6_goesBy_0 {p : Program} {l : Launch} {e : Env} {s : State} {m : MethodId} {args : Array Value} {below : List Frame} {meth : Method} {c : Code} {dC : Nat → ClassId} {dI : Nat → Nat → Nat} {A : Nat → Prop} {h : Nat} {ad : Nat → Nat} {cI : ClassId} {res : Int32} (C0 : ql_C p s m args meth c cX6_goesBy 5 (some .int) wsX6_goesBy RX6 (dC, dI) [(cI, .int)] A) (N : Nat) (z : ql_St) : ∀ (x1 : Int32) (x2 : Int32) (x3 : Int32), f_X6_goesBy_0 N z x1 x2 x3 = some res → ∀ (H : Heap) (locs : List Loc) (ls : Array Slot), va_P (dC, dI) vwCl ((ql_pw h ad cI) z) H → va_S A s.heap H locs → lv_has ls 5 [(0, .ref h), (1, .int x1), (2, .int x2), (3, .int x3)] → W p l e rm_X6_goesBy s m args below meth c H locs 0 0 (ql_Qri below A args s res) (F0 m 0 ls []) := by
  have C0q := C0
  obtain ⟨hx, hb, hr, hml, hown, hts, hlocks, hK, hA⟩ := C0q
  intro x1 x2 x3 hf H locs ls hP hS hl
  unfold f_X6_goesBy_0 at hf
  refine lv_aload_n hx hb dX6_goesBy_0 rfl (lv_at hl 0 rfl) ?_
  refine lv_iload_n hx hb dX6_goesBy_1 rfl (lv_at hl 1 rfl) ?_
  refine lv_iload_n hx hb dX6_goesBy_2 rfl (lv_at hl 2 rfl) ?_
  obtain ⟨u1, hu1, hf⟩ := ql_bd hf
  refine ql_callRVi (As := [.int x1, .int x2]) (rest := []) C0 (c_X6_goes l dC dI h ad cI N z x1 x2 u1 hu1) (cwV 2 hts gX6_goesBy_X6_goes rfl rfl rfl qv_X6_goes ⟨Nat.le_of_ble_eq_true rfl, Nat.le_of_ble_eq_true rfl⟩) (va_recv hK.1 hP (ci := 6) (q0 := 0) rfl rfl) hK hP hS hl.1 rfl rfl (Nat.le_of_ble_eq_true rfl) dX6_goesBy_3 (fun H1 locs hk hS => ?_)
  have hP := ql_keep hP hk
  refine lv_istore (lv' := [(4, .int u1), (0, .ref h), (1, .int x1), (2, .int x2), (3, .int x3)]) hx hb dX6_goesBy_6 hl (by decide) rfl (fun ls hl => ?_)
  refine lv_aload_n hx hb dX6_goesBy_8 rfl (lv_at hl 1 rfl) ?_
  refine lv_iload hx hb dX6_goesBy_9 (lv_at hl 0 rfl) ?_
  obtain ⟨u2, hu2, hf⟩ := ql_bd hf
  refine ql_callRVi (As := [.int u1]) (rest := []) C0 (c_X6_actAt l dC dI h ad cI N z u1 u2 hu2) (cwV 1 hts gX6_goesBy_X6_actAt rfl rfl rfl qv_X6_actAt ⟨Nat.le_of_ble_eq_true rfl, Nat.le_of_ble_eq_true rfl⟩) (va_recv hK.1 hP (ci := 6) (q0 := 0) rfl rfl) hK hP hS hl.1 rfl rfl (Nat.le_of_ble_eq_true rfl) dX6_goesBy_11 (fun H1 locs hk hS => ?_)
  have hP := ql_keep hP hk
  refine lv_iload_n hx hb dX6_goesBy_14 rfl (lv_at hl 4 rfl) ?_
  refine lv_icmp_ne (tgt := 23) hx hb dX6_goesBy_15 (by decide) (fun c3 => ?_) (fun c3 => ?_)
  · have hf := (if_neg c3).symm.trans hf
    refine lv_bipush (v := 17) hx hb dX6_goesBy_23 (by decide) ?_
    exact ql_riret C0 hf hS dX6_goesBy_25
  · have hf := (if_pos c3).symm.trans hf
    refine lv_iload hx hb dX6_goesBy_18 (lv_at hl 0 rfl) ?_
    refine lv_goto (tgt := 25) hx hb dX6_goesBy_20 (by decide) ?_
    exact ql_riret C0 hf hS dX6_goesBy_25
set_option maxRecDepth 100000 in
theorem c_X6_goesBy (l : Launch) (dC : Nat → ClassId) (dI : Nat → Nat → Nat) (h : Nat) (ad : Nat → Nat) (cI : ClassId) (N : Nat) (z : ql_St) (x1 : Int32) (x2 : Int32) (x3 : Int32) (res : Int32) (hf : f_X6_goesBy N z x1 x2 x3 = some res) : ql_Ri l yX6_goesBy wsX6_goesBy rm_X6_goesBy (dC, dI) [(cI, .int)] ((ql_pw h ad cI) z) [.ref h, .int x1, .int x2, .int x3] res :=
  ql_start_ri (by decide) rfl (Nat.le_of_ble_eq_true rfl) (fun p e s m below meth c A ls C0 hl hP hS => w_X6_goesBy_0 C0 N z x1 x2 x3 hf s.heap [] ls hP hS (lv_sub (show lv_has ls 5 [(0, .ref h), (1, .int x1), (2, .int x2), (3, .int x3)] from hl) [0, 1, 2, 3] rfl))
/-! ===== TestedLoops$Plan.lastsBy(II)I ===== -/
abbrev rm_X6_lastsBy : Room := { frames := 2, cells := 0, slots := 0, locals := 44 }
theorem iw_X6_lastsBy_X6 : ∀ w ∈ wsX60, w ∈ wsX6_lastsBy := fun w h => List.mem_cons_of_mem _ (List.mem_append_right _ h)
theorem qv_X6_lastsBy : yX6_lastsBy.cls = RX6 ∧ yX6_lastsBy.cls ≠ "java/lang/invoke/MethodHandle" ∧ yX6_lastsBy.cls ≠ "java/lang/invoke/VarHandle" ∧ (parseMethodDescriptor yX6_lastsBy.desc).map (fun d => d.parameters.length) = some 2 := by decide +kernel
def f_X6_lastsBy_0 (N : Nat) (z : ql_St) (x1 : Int32) (x2 : Int32) : Option (Int32) := (f_X6_goes N z x1 x2).bind fun u1 => if u1 = 0 then some ((1 : Int32) <<< (x2 &&& 31)) else (f_X6_isPlace N z u1).bind fun u3 => if u3 = 0 then some 0 else if ql_ib u1 17 = true then some ((z 8) u1.toNatClampNeg) else none
def f_X6_lastsBy (N : Nat) (z : ql_St) (x1 : Int32) (x2 : Int32) : Option (Int32) := f_X6_lastsBy_0 N z x1 x2
set_option maxHeartbeats 4000000 in
set_option maxRecDepth 100000 in
theorem w_X6_lastsBy_0 {p : Program} {l : Launch} {e : Env} {s : State} {m : MethodId} {args : Array Value} {below : List Frame} {meth : Method} {c : Code} {dC : Nat → ClassId} {dI : Nat → Nat → Nat} {A : Nat → Prop} {h : Nat} {ad : Nat → Nat} {cI : ClassId} {res : Int32} (C0 : ql_C p s m args meth c cX6_lastsBy 4 (some .int) wsX6_lastsBy RX6 (dC, dI) [(cI, .int)] A) (N : Nat) (z : ql_St) : ∀ (x1 : Int32) (x2 : Int32), f_X6_lastsBy_0 N z x1 x2 = some res → ∀ (H : Heap) (locs : List Loc) (ls : Array Slot), va_P (dC, dI) vwCl ((ql_pw h ad cI) z) H → va_S A s.heap H locs → lv_has ls 4 [(0, .ref h), (1, .int x1), (2, .int x2)] → W p l e rm_X6_lastsBy s m args below meth c H locs 0 0 (ql_Qri below A args s res) (F0 m 0 ls []) := by
  have C0q := C0
  obtain ⟨hx, hb, hr, hml, hown, hts, hlocks, hK, hA⟩ := C0q
  have fl30 := hts (Cond.fieldLink RX6 30 "TestedLoops$Plan" "lasts" "[I") (by decide +kernel)
  intro x1 x2 hf H locs ls hP hS hl
  unfold f_X6_lastsBy_0 at hf
  refine lv_aload_n hx hb dX6_lastsBy_0 rfl (lv_at hl 0 rfl) ?_
  refine lv_iload_n hx hb dX6_lastsBy_1 rfl (lv_at hl 1 rfl) ?_
  refine lv_iload_n hx hb dX6_lastsBy_2 rfl (lv_at hl 2 rfl) ?_
  obtain ⟨u1, hu1, hf⟩ := ql_bd hf
  refine ql_callRVi (As := [.int x1, .int x2]) (rest := []) C0 (c_X6_goes l dC dI h ad cI N z x1 x2 u1 hu1) (cwV 2 hts gX6_lastsBy_X6_goes rfl rfl rfl qv_X6_goes ⟨Nat.le_of_ble_eq_true rfl, Nat.le_of_ble_eq_true rfl⟩) (va_recv hK.1 hP (ci := 6) (q0 := 0) rfl rfl) hK hP hS hl.1 rfl rfl (Nat.le_of_ble_eq_true rfl) dX6_lastsBy_3 (fun H1 locs hk hS => ?_)
  have hP := ql_keep hP hk
  refine lv_istore_n (lv' := [(3, .int u1), (0, .ref h), (1, .int x1), (2, .int x2)]) hx hb dX6_lastsBy_6 rfl hl (by decide) rfl (fun ls hl => ?_)
  refine lv_iload_n hx hb dX6_lastsBy_7 rfl (lv_at hl 0 rfl) ?_
  refine lv_if_ne (tgt := 15) hx hb dX6_lastsBy_8 (by decide) (fun c2 => ?_) (fun c2 => ?_)
  · have hf := (if_neg c2).symm.trans hf
    refine lv_aload_n hx hb dX6_lastsBy_15 rfl (lv_at hl 1 rfl) ?_
    refine lv_iload_n hx hb dX6_lastsBy_16 rfl (lv_at hl 0 rfl) ?_
    obtain ⟨u3, hu3, hf⟩ := ql_bd hf
    refine ql_callRVi (As := [.int u1]) (rest := []) C0 (c_X6_isPlace l dC dI h ad cI N z u1 u3 hu3) (cwV 1 hts gX6_lastsBy_X6_isPlace rfl rfl rfl qv_X6_isPlace ⟨Nat.le_of_ble_eq_true rfl, Nat.le_of_ble_eq_true rfl⟩) (va_recv hK.1 hP (ci := 6) (q0 := 0) rfl rfl) hK hP hS hl.1 rfl rfl (Nat.le_of_ble_eq_true rfl) dX6_lastsBy_17 (fun H1 locs hk hS => ?_)
    have hP := ql_keep hP hk
    refine lv_if_eq (tgt := 32) hx hb dX6_lastsBy_20 (by decide) (fun c4 => ?_) (fun c4 => ?_)
    · have hf := (if_pos c4).symm.trans hf
      refine lv_iconst (v := 0) hx hb dX6_lastsBy_32 (by decide) ?_
      exact ql_riret C0 hf hS dX6_lastsBy_33
    · have hf := (if_neg c4).symm.trans hf
      refine lv_aload_n hx hb dX6_lastsBy_23 rfl (lv_at hl 1 rfl) ?_
      refine va_get (D := (dC, dI)) (ci := 6) (v := .ref (ad 8)) (C := RX6) (T := TX6) (N := 10) hx hb hts iw_X6_lastsBy_X6 hown hK.1 hP 0 rfl rfl 8 (by decide) fl30 (fun _ h9 => h9) rfl dX6_lastsBy_24 ?_
      refine lv_iload_n hx hb dX6_lastsBy_27 rfl (lv_at hl 0 rfl) ?_
      have g0 := ql_in (ql_gt hf)
      have hf := ql_gx hf
      refine va_iald (f := (z 8)) hx hb hK.1 hP 7 0 rfl rfl g0 dX6_lastsBy_28 ?_
      refine lv_goto (tgt := 33) hx hb dX6_lastsBy_29 (by decide) ?_
      exact ql_riret C0 hf hS dX6_lastsBy_33
  · have hf := (if_pos c2).symm.trans hf
    refine lv_iconst (v := 1) hx hb dX6_lastsBy_11 (by decide) ?_
    refine lv_iload_n hx hb dX6_lastsBy_12 rfl (lv_at hl 3 rfl) ?_
    refine lv_ishl hx hb dX6_lastsBy_13 ?_
    exact ql_riret C0 hf hS dX6_lastsBy_14
set_option maxRecDepth 100000 in
theorem c_X6_lastsBy (l : Launch) (dC : Nat → ClassId) (dI : Nat → Nat → Nat) (h : Nat) (ad : Nat → Nat) (cI : ClassId) (N : Nat) (z : ql_St) (x1 : Int32) (x2 : Int32) (res : Int32) (hf : f_X6_lastsBy N z x1 x2 = some res) : ql_Ri l yX6_lastsBy wsX6_lastsBy rm_X6_lastsBy (dC, dI) [(cI, .int)] ((ql_pw h ad cI) z) [.ref h, .int x1, .int x2] res :=
  ql_start_ri (by decide) rfl (Nat.le_of_ble_eq_true rfl) (fun p e s m below meth c A ls C0 hl hP hS => w_X6_lastsBy_0 C0 N z x1 x2 hf s.heap [] ls hP hS (lv_sub (show lv_has ls 4 [(0, .ref h), (1, .int x1), (2, .int x2)] from hl) [0, 1, 2] rfl))
/-! ===== TestedLoops$Plan.endings(I)I ===== -/
abbrev rm_X6_endings : Room := { frames := 2, cells := 0, slots := 0, locals := 44 }
theorem iw_X6_endings_X6 : ∀ w ∈ wsX60, w ∈ wsX6_endings := fun w h => List.mem_cons_of_mem _ (List.mem_append_right _ h)
theorem qv_X6_endings : yX6_endings.cls = RX6 ∧ yX6_endings.cls ≠ "java/lang/invoke/MethodHandle" ∧ yX6_endings.cls ≠ "java/lang/invoke/VarHandle" ∧ (parseMethodDescriptor yX6_endings.desc).map (fun d => d.parameters.length) = some 1 := by decide +kernel
def f_X6_endings_24 (N : Nat) (z : ql_St) (k4 : Int32 → Int32 → Int32 → Option (Int32)) (x1 : Int32) (x3 : Int32) (y0 : Int32) (y1 : Int32) : Option (Int32) := k4 x1 (y1 + y0) (x3 + 1)
def f_X6_endings_4 (N : Nat) (z : ql_St) : Nat → Int32 → Int32 → Int32 → Option (Int32)
  | 0, _, _, _ => none
  | n + 1, x1, x2, x3 => if 4 ≤ x3 then some x2 else (f_X6_goes N z x1 x3).bind fun u2 => if u2 = 0 then f_X6_endings_24 N z (f_X6_endings_4 N z n) x1 x3 1 x2 else f_X6_endings_24 N z (f_X6_endings_4 N z n) x1 x3 0 x2
def f_X6_endings_0 (N : Nat) (z : ql_St) (x1 : Int32) : Option (Int32) := f_X6_endings_4 N z N x1 0 0
def f_X6_endings (N : Nat) (z : ql_St) (x1 : Int32) : Option (Int32) := f_X6_endings_0 N z x1
set_option maxHeartbeats 4000000 in
set_option maxRecDepth 100000 in
theorem w_X6_endings_24 {p : Program} {l : Launch} {e : Env} {s : State} {m : MethodId} {args : Array Value} {below : List Frame} {meth : Method} {c : Code} {dC : Nat → ClassId} {dI : Nat → Nat → Nat} {A : Nat → Prop} {h : Nat} {ad : Nat → Nat} {cI : ClassId} {res : Int32} (C0 : ql_C p s m args meth c cX6_endings 4 (some .int) wsX6_endings RX6 (dC, dI) [(cI, .int)] A) (N : Nat) (z : ql_St) (k4 : Int32 → Int32 → Int32 → Option (Int32)) (hk4 : ∀ (x1 : Int32) (x2 : Int32) (x3 : Int32), k4 x1 x2 x3 = some res → ∀ (H : Heap) (locs : List Loc) (ls : Array Slot), va_P (dC, dI) vwCl ((ql_pw h ad cI) z) H → va_S A s.heap H locs → lv_has ls 4 [(0, .ref h), (1, .int x1), (2, .int x2), (3, .int x3)] → W p l e rm_X6_endings s m args below meth c H locs 0 0 (ql_Qri below A args s res) (F0 m 4 ls [])) : ∀ (x1 : Int32) (x3 : Int32) (y0 : Int32) (y1 : Int32), f_X6_endings_24 N z k4 x1 x3 y0 y1 = some res → ∀ (H : Heap) (locs : List Loc) (ls : Array Slot), va_P (dC, dI) vwCl ((ql_pw h ad cI) z) H → va_S A s.heap H locs → lv_has ls 4 [(0, .ref h), (1, .int x1), (3, .int x3)] → W p l e rm_X6_endings s m args below meth c H locs 0 0 (ql_Qri below A args s res) (F0 m 24 ls [.int y0, .int y1]) := by
  have C0q := C0
  obtain ⟨hx, hb, hr, hml, hown, hts, hlocks, hK, hA⟩ := C0q
  intro x1 x3 y0 y1 hf H locs ls hP hS hl
  unfold f_X6_endings_24 at hf
  refine lv_iadd hx hb dX6_endings_24 ?_
  refine lv_istore_n (lv' := [(2, .int (y1 + y0)), (0, .ref h), (1, .int x1), (3, .int x3)]) hx hb dX6_endings_25 rfl hl (by decide) rfl (fun ls hl => ?_)
  refine lv_iinc (v := (x3 + 1)) (lv' := [(3, .int (x3 + 1)), (2, .int (y1 + y0)), (0, .ref h), (1, .int x1)]) hx hb dX6_endings_26 hl (k := 3) rfl rfl (by decide) rfl (fun ls hl => ?_)
  refine lv_goto (tgt := 4) hx hb dX6_endings_29 (by decide) ?_
  exact hk4 _ _ _ hf _ _ _ hP hS (lv_sub hl [2, 3, 1, 0] rfl)
set_option maxHeartbeats 4000000 in
set_option maxRecDepth 100000 in
theorem w_X6_endings_4 {p : Program} {l : Launch} {e : Env} {s : State} {m : MethodId} {args : Array Value} {below : List Frame} {meth : Method} {c : Code} {dC : Nat → ClassId} {dI : Nat → Nat → Nat} {A : Nat → Prop} {h : Nat} {ad : Nat → Nat} {cI : ClassId} {res : Int32} (C0 : ql_C p s m args meth c cX6_endings 4 (some .int) wsX6_endings RX6 (dC, dI) [(cI, .int)] A) (N : Nat) (z : ql_St) : ∀ (n : Nat), ∀ (x1 : Int32) (x2 : Int32) (x3 : Int32), f_X6_endings_4 N z n x1 x2 x3 = some res → ∀ (H : Heap) (locs : List Loc) (ls : Array Slot), va_P (dC, dI) vwCl ((ql_pw h ad cI) z) H → va_S A s.heap H locs → lv_has ls 4 [(0, .ref h), (1, .int x1), (2, .int x2), (3, .int x3)] → W p l e rm_X6_endings s m args below meth c H locs 0 0 (ql_Qri below A args s res) (F0 m 4 ls []) := by
  have C0q := C0
  obtain ⟨hx, hb, hr, hml, hown, hts, hlocks, hK, hA⟩ := C0q
  intro n
  induction n with
  | zero =>
    intro x1 x2 x3 hf
    rw [f_X6_endings_4] at hf
    cases hf
  | succ n ih =>
    intro x1 x2 x3 hf H locs ls hP hS hl
    rw [f_X6_endings_4] at hf
    refine lv_iload_n hx hb dX6_endings_4 rfl (lv_at hl 3 rfl) ?_
    refine lv_iconst (v := 4) hx hb dX6_endings_5 (by decide) ?_
    refine lv_icmp_ge (tgt := 32) hx hb dX6_endings_6 (by decide) (fun c1 => ?_) (fun c1 => ?_)
    · have hf := (if_pos c1).symm.trans hf
      refine lv_iload_n hx hb dX6_endings_32 rfl (lv_at hl 2 rfl) ?_
      exact ql_riret C0 hf hS dX6_endings_33
    · have hf := (if_neg c1).symm.trans hf
      refine lv_iload_n hx hb dX6_endings_9 rfl (lv_at hl 2 rfl) ?_
      refine lv_aload_n hx hb dX6_endings_10 rfl (lv_at hl 0 rfl) ?_
      refine lv_iload_n hx hb dX6_endings_11 rfl (lv_at hl 1 rfl) ?_
      refine lv_iload_n hx hb dX6_endings_12 rfl (lv_at hl 3 rfl) ?_
      obtain ⟨u2, hu2, hf⟩ := ql_bd hf
      refine ql_callRVi (As := [.int x1, .int x3]) (rest := [.int x2]) C0 (c_X6_goes l dC dI h ad cI N z x1 x3 u2 hu2) (cwV 2 hts gX6_endings_X6_goes rfl rfl rfl qv_X6_goes ⟨Nat.le_of_ble_eq_true rfl, Nat.le_of_ble_eq_true rfl⟩) (va_recv hK.1 hP (ci := 6) (q0 := 0) rfl rfl) hK hP hS hl.1 rfl rfl (Nat.le_of_ble_eq_true rfl) dX6_endings_13 (fun H1 locs hk hS => ?_)
      have hP := ql_keep hP hk
      refine lv_if_ne (tgt := 23) hx hb dX6_endings_16 (by decide) (fun c3 => ?_) (fun c3 => ?_)
      · have hf := (if_neg c3).symm.trans hf
        refine lv_iconst (v := 0) hx hb dX6_endings_23 (by decide) ?_
        exact w_X6_endings_24 C0 N z (f_X6_endings_4 N z n) ih _ _ _ _ hf _ _ _ hP hS (lv_sub hl [0, 1, 3] rfl)
      · have hf := (if_pos c3).symm.trans hf
        refine lv_iconst (v := 1) hx hb dX6_endings_19 (by decide) ?_
        refine lv_goto (tgt := 24) hx hb dX6_endings_20 (by decide) ?_
        exact w_X6_endings_24 C0 N z (f_X6_endings_4 N z n) ih _ _ _ _ hf _ _ _ hP hS (lv_sub hl [0, 1, 3] rfl)
set_option maxHeartbeats 4000000 in
set_option maxRecDepth 100000 in
theorem w_X6_endings_0 {p : Program} {l : Launch} {e : Env} {s : State} {m : MethodId} {args : Array Value} {below : List Frame} {meth : Method} {c : Code} {dC : Nat → ClassId} {dI : Nat → Nat → Nat} {A : Nat → Prop} {h : Nat} {ad : Nat → Nat} {cI : ClassId} {res : Int32} (C0 : ql_C p s m args meth c cX6_endings 4 (some .int) wsX6_endings RX6 (dC, dI) [(cI, .int)] A) (N : Nat) (z : ql_St) : ∀ (x1 : Int32), f_X6_endings_0 N z x1 = some res → ∀ (H : Heap) (locs : List Loc) (ls : Array Slot), va_P (dC, dI) vwCl ((ql_pw h ad cI) z) H → va_S A s.heap H locs → lv_has ls 4 [(0, .ref h), (1, .int x1)] → W p l e rm_X6_endings s m args below meth c H locs 0 0 (ql_Qri below A args s res) (F0 m 0 ls []) := by
  have C0q := C0
  obtain ⟨hx, hb, hr, hml, hown, hts, hlocks, hK, hA⟩ := C0q
  intro x1 hf H locs ls hP hS hl
  unfold f_X6_endings_0 at hf
  refine lv_iconst (v := 0) hx hb dX6_endings_0 (by decide) ?_
  refine lv_istore_n (lv' := [(2, .int 0), (0, .ref h), (1, .int x1)]) hx hb dX6_endings_1 rfl hl (by decide) rfl (fun ls hl => ?_)
  refine lv_iconst (v := 0) hx hb dX6_endings_2 (by decide) ?_
  refine lv_istore_n (lv' := [(3, .int 0), (2, .int 0), (0, .ref h), (1, .int x1)]) hx hb dX6_endings_3 rfl hl (by decide) rfl (fun ls hl => ?_)
  exact w_X6_endings_4 C0 N z N _ _ _ hf _ _ _ hP hS (lv_sub hl [2, 3, 1, 0] rfl)
set_option maxRecDepth 100000 in
theorem c_X6_endings (l : Launch) (dC : Nat → ClassId) (dI : Nat → Nat → Nat) (h : Nat) (ad : Nat → Nat) (cI : ClassId) (N : Nat) (z : ql_St) (x1 : Int32) (res : Int32) (hf : f_X6_endings N z x1 = some res) : ql_Ri l yX6_endings wsX6_endings rm_X6_endings (dC, dI) [(cI, .int)] ((ql_pw h ad cI) z) [.ref h, .int x1] res :=
  ql_start_ri (by decide) rfl (Nat.le_of_ble_eq_true rfl) (fun p e s m below meth c A ls C0 hl hP hS => w_X6_endings_0 C0 N z x1 hf s.heap [] ls hP hS (lv_sub (show lv_has ls 4 [(0, .ref h), (1, .int x1)] from hl) [0, 1] rfl))
/-! ===== TestedLoops$Plan.isLive(I)Z ===== -/
abbrev rm_X6_isLive : Room := { frames := 1, cells := 0, slots := 0, locals := 21 }
theorem iw_X6_isLive_X6 : ∀ w ∈ wsX60, w ∈ wsX6_isLive := fun w h => List.mem_cons_of_mem _ (List.mem_append_right _ h)
theorem qv_X6_isLive : yX6_isLive.cls = RX6 ∧ yX6_isLive.cls ≠ "java/lang/invoke/MethodHandle" ∧ yX6_isLive.cls ≠ "java/lang/invoke/VarHandle" ∧ (parseMethodDescriptor yX6_isLive.desc).map (fun d => d.parameters.length) = some 1 := by decide +kernel
def f_X6_isLive_0 (N : Nat) (z : ql_St) (x1 : Int32) : Option (Int32) := (f_X6_canGoFrom N z x1).bind fun u1 => if u1 = 0 then some 0 else (f_X10_holds N (z 9 0) x1).bind fun u3 => if u3 = 0 then some 0 else if ql_ib x1 17 = true then if ((z 8) x1.toNatClampNeg) = 0 then some 0 else some 1 else none
def f_X6_isLive (N : Nat) (z : ql_St) (x1 : Int32) : Option (Int32) := f_X6_isLive_0 N z x1
set_option maxHeartbeats 4000000 in
set_option maxRecDepth 100000 in
theorem w_X6_isLive_0 {p : Program} {l : Launch} {e : Env} {s : State} {m : MethodId} {args : Array Value} {below : List Frame} {meth : Method} {c : Code} {dC : Nat → ClassId} {dI : Nat → Nat → Nat} {A : Nat → Prop} {h : Nat} {ad : Nat → Nat} {cI : ClassId} {res : Int32} (C0 : ql_C p s m args meth c cX6_isLive 2 (some .boolean) wsX6_isLive RX6 (dC, dI) [(cI, .int)] A) (N : Nat) (z : ql_St) : ∀ (x1 : Int32), f_X6_isLive_0 N z x1 = some res → ∀ (H : Heap) (locs : List Loc) (ls : Array Slot), va_P (dC, dI) vwCl ((ql_pw h ad cI) z) H → va_S A s.heap H locs → lv_has ls 2 [(0, .ref h), (1, .int x1)] → W p l e rm_X6_isLive s m args below meth c H locs 0 0 (ql_Qri below A args s res) (F0 m 0 ls []) := by
  have C0q := C0
  obtain ⟨hx, hb, hr, hml, hown, hts, hlocks, hK, hA⟩ := C0q
  have fl78 := hts (Cond.fieldLink RX6 78 "TestedLoops$Plan" "reached" "I") (by decide +kernel)
  have fl30 := hts (Cond.fieldLink RX6 30 "TestedLoops$Plan" "lasts" "[I") (by decide +kernel)
  intro x1 hf H locs ls hP hS hl
  unfold f_X6_isLive_0 at hf
  refine lv_aload_n hx hb dX6_isLive_0 rfl (lv_at hl 0 rfl) ?_
  refine lv_iload_n hx hb dX6_isLive_1 rfl (lv_at hl 1 rfl) ?_
  obtain ⟨u1, hu1, hf⟩ := ql_bd hf
  refine ql_callRVi (As := [.int x1]) (rest := []) C0 (c_X6_canGoFrom l dC dI h ad cI N z x1 u1 hu1) (cwV 1 hts gX6_isLive_X6_canGoFrom rfl rfl rfl qv_X6_canGoFrom ⟨Nat.le_of_ble_eq_true rfl, Nat.le_of_ble_eq_true rfl⟩) (va_recv hK.1 hP (ci := 6) (q0 := 0) rfl rfl) hK hP hS hl.1 rfl rfl (Nat.le_of_ble_eq_true rfl) dX6_isLive_2 (fun H1 locs hk hS => ?_)
  have hP := ql_keep hP hk
  refine lv_if_eq (tgt := 32) hx hb dX6_isLive_5 (by decide) (fun c2 => ?_) (fun c2 => ?_)
  · have hf := (if_pos c2).symm.trans hf
    refine lv_iconst (v := 0) hx hb dX6_isLive_32 (by decide) ?_
    exact ql_rzret C0 (Or.inl rfl) hf hS dX6_isLive_33
  · have hf := (if_neg c2).symm.trans hf
    refine lv_aload_n hx hb dX6_isLive_8 rfl (lv_at hl 0 rfl) ?_
    refine va_get (D := (dC, dI)) (ci := 6) (v := .int (z 9 0)) (C := RX6) (T := TX6) (N := 10) hx hb hts iw_X6_isLive_X6 hown hK.1 hP 0 rfl rfl 9 (by decide) fl78 (fun _ h9 => h9) rfl dX6_isLive_9 ?_
    refine lv_iload_n hx hb dX6_isLive_12 rfl (lv_at hl 1 rfl) ?_
    obtain ⟨u3, hu3, hf⟩ := ql_bd hf
    refine ql_callRNi (As := [.int (z 9 0), .int x1]) (rest := []) C0 (c_X10_holds l dC dI N (z 9 0) x1 u3 hu3) ⟨va_cnB 2 hts gX6_isLive_X10_holds_n71 rfl rfl rfl hK.2 (hts (.initialized RX10) (by decide +kernel)) qd_X10_holds ⟨Nat.le_of_ble_eq_true rfl, Nat.le_of_ble_eq_true rfl⟩, hts (.static yX10_holds) (by decide +kernel), trivial⟩ (hK.sub [] rfl) ql_nil hS hl.1 rfl rfl (Nat.le_of_ble_eq_true rfl) dX6_isLive_13 (fun H1 locs hk hS => ?_)
    have hP := ql_keep hP hk
    refine lv_if_eq (tgt := 32) hx hb dX6_isLive_16 (by decide) (fun c4 => ?_) (fun c4 => ?_)
    · have hf := (if_pos c4).symm.trans hf
      refine lv_iconst (v := 0) hx hb dX6_isLive_32 (by decide) ?_
      exact ql_rzret C0 (Or.inl rfl) hf hS dX6_isLive_33
    · have hf := (if_neg c4).symm.trans hf
      refine lv_aload_n hx hb dX6_isLive_19 rfl (lv_at hl 0 rfl) ?_
      refine va_get (D := (dC, dI)) (ci := 6) (v := .ref (ad 8)) (C := RX6) (T := TX6) (N := 10) hx hb hts iw_X6_isLive_X6 hown hK.1 hP 0 rfl rfl 8 (by decide) fl30 (fun _ h9 => h9) rfl dX6_isLive_20 ?_
      refine lv_iload_n hx hb dX6_isLive_23 rfl (lv_at hl 1 rfl) ?_
      have g0 := ql_in (ql_gt hf)
      have hf := ql_gx hf
      refine va_iald (f := (z 8)) hx hb hK.1 hP 7 0 rfl rfl g0 dX6_isLive_24 ?_
      refine lv_if_eq (tgt := 32) hx hb dX6_isLive_25 (by decide) (fun c5 => ?_) (fun c5 => ?_)
      · have hf := (if_pos c5).symm.trans hf
        refine lv_iconst (v := 0) hx hb dX6_isLive_32 (by decide) ?_
        exact ql_rzret C0 (Or.inl rfl) hf hS dX6_isLive_33
      · have hf := (if_neg c5).symm.trans hf
        refine lv_iconst (v := 1) hx hb dX6_isLive_28 (by decide) ?_
        refine lv_goto (tgt := 33) hx hb dX6_isLive_29 (by decide) ?_
        exact ql_rzret C0 (Or.inr rfl) hf hS dX6_isLive_33
set_option maxRecDepth 100000 in
theorem c_X6_isLive (l : Launch) (dC : Nat → ClassId) (dI : Nat → Nat → Nat) (h : Nat) (ad : Nat → Nat) (cI : ClassId) (N : Nat) (z : ql_St) (x1 : Int32) (res : Int32) (hf : f_X6_isLive N z x1 = some res) : ql_Ri l yX6_isLive wsX6_isLive rm_X6_isLive (dC, dI) [(cI, .int)] ((ql_pw h ad cI) z) [.ref h, .int x1] res :=
  ql_start_ri (by decide) rfl (Nat.le_of_ble_eq_true rfl) (fun p e s m below meth c A ls C0 hl hP hS => w_X6_isLive_0 C0 N z x1 hf s.heap [] ls hP hS (lv_sub (show lv_has ls 2 [(0, .ref h), (1, .int x1)] from hl) [0, 1] rfl))
/-! ===== TestedLoops$Plan.numberOf(I)I ===== -/
abbrev rm_X6_numberOf : Room := { frames := 2, cells := 0, slots := 0, locals := 42 }
theorem iw_X6_numberOf_X6 : ∀ w ∈ wsX60, w ∈ wsX6_numberOf := fun w h => List.mem_cons_of_mem _ (List.mem_append_right _ h)
theorem qv_X6_numberOf : yX6_numberOf.cls = RX6 ∧ yX6_numberOf.cls ≠ "java/lang/invoke/MethodHandle" ∧ yX6_numberOf.cls ≠ "java/lang/invoke/VarHandle" ∧ (parseMethodDescriptor yX6_numberOf.desc).map (fun d => d.parameters.length) = some 1 := by decide +kernel
def f_X6_numberOf_0 (N : Nat) (z : ql_St) (x1 : Int32) : Option (Int32) := if ql_ib x1 300 = true then if ((z 0) x1.toNatClampNeg) = 1 then if ql_ib x1 300 = true then (f_X6_actAt N z ((z 2) x1.toNatClampNeg)).bind fun u3 => some u3 else none else if ql_ib x1 300 = true then (f_J6_bitCount_0f7a4 N ((z 1) x1.toNatClampNeg)).bind fun u2 => some u2 else none else none
def f_X6_numberOf (N : Nat) (z : ql_St) (x1 : Int32) : Option (Int32) := f_X6_numberOf_0 N z x1
set_option maxHeartbeats 4000000 in
set_option maxRecDepth 100000 in
theorem w_X6_numberOf_0 {p : Program} {l : Launch} {e : Env} {s : State} {m : MethodId} {args : Array Value} {below : List Frame} {meth : Method} {c : Code} {dC : Nat → ClassId} {dI : Nat → Nat → Nat} {A : Nat → Prop} {h : Nat} {ad : Nat → Nat} {cI : ClassId} {res : Int32} (C0 : ql_C p s m args meth c cX6_numberOf 2 (some .int) wsX6_numberOf RX6 (dC, dI) [(cI, .int)] A) (N : Nat) (z : ql_St) : ∀ (x1 : Int32), f_X6_numberOf_0 N z x1 = some res → ∀ (H : Heap) (locs : List Loc) (ls : Array Slot), va_P (dC, dI) vwCl ((ql_pw h ad cI) z) H → va_S A s.heap H locs → lv_has ls 2 [(0, .ref h), (1, .int x1)] → W p l e rm_X6_numberOf s m args below meth c H locs 0 0 (ql_Qri below A args s res) (F0 m 0 ls []) := by
  have C0q := C0
  obtain ⟨hx, hb, hr, hml, hown, hts, hlocks, hK, hA⟩ := C0q
  have fl9 := hts (Cond.fieldLink RX6 9 "TestedLoops$Plan" "kind" "[I") (by decide +kernel)
  have fl15 := hts (Cond.fieldLink RX6 15 "TestedLoops$Plan" "atoms" "[I") (by decide +kernel)
  have fl18 := hts (Cond.fieldLink RX6 18 "TestedLoops$Plan" "to" "[I") (by decide +kernel)
  intro x1 hf H locs ls hP hS hl
  unfold f_X6_numberOf_0 at hf
  refine lv_aload_n hx hb dX6_numberOf_0 rfl (lv_at hl 0 rfl) ?_
  refine va_get (D := (dC, dI)) (ci := 6) (v := .ref (ad 0)) (C := RX6) (T := TX6) (N := 10) hx hb hts iw_X6_numberOf_X6 hown hK.1 hP 0 rfl rfl 0 (by decide) fl9 (fun _ h9 => h9) rfl dX6_numberOf_1 ?_
  refine lv_iload_n hx hb dX6_numberOf_4 rfl (lv_at hl 1 rfl) ?_
  have g0 := ql_in (ql_gt hf)
  have hf := ql_gx hf
  refine va_iald (f := (z 0)) hx hb hK.1 hP 1 0 rfl rfl g0 dX6_numberOf_5 ?_
  refine lv_iconst (v := 1) hx hb dX6_numberOf_6 (by decide) ?_
  refine lv_icmp_ne (tgt := 23) hx hb dX6_numberOf_7 (by decide) (fun c1 => ?_) (fun c1 => ?_)
  · have hf := (if_neg c1).symm.trans hf
    refine lv_aload_n hx hb dX6_numberOf_23 rfl (lv_at hl 0 rfl) ?_
    refine va_get (D := (dC, dI)) (ci := 6) (v := .ref (ad 1)) (C := RX6) (T := TX6) (N := 10) hx hb hts iw_X6_numberOf_X6 hown hK.1 hP 0 rfl rfl 1 (by decide) fl15 (fun _ h9 => h9) rfl dX6_numberOf_24 ?_
    refine lv_iload_n hx hb dX6_numberOf_27 rfl (lv_at hl 1 rfl) ?_
    have g0 := ql_in (ql_gt hf)
    have hf := ql_gx hf
    refine va_iald (f := (z 1)) hx hb hK.1 hP 2 0 rfl rfl g0 dX6_numberOf_28 ?_
    obtain ⟨u2, hu2, hf⟩ := ql_bd hf
    refine ql_callRSi (As := [.int ((z 1) x1.toNatClampNeg)]) (rest := []) C0 (c_J6_bitCount_0f7a4 l dC dI N ((z 1) x1.toNatClampNeg) u2 hu2) (va_cwS 1 hts gX6_numberOf_J6_bitCount_0f7a4 rfl rfl rfl qd_J6_bitCount_0f7a4 ⟨Nat.le_of_ble_eq_true rfl, Nat.le_of_ble_eq_true rfl⟩) (hK.sub [] rfl) ql_nil hS hl.1 rfl rfl (Nat.le_of_ble_eq_true rfl) dX6_numberOf_29 (fun H1 locs hk hS => ?_)
    have hP := ql_keep hP hk
    exact ql_riret C0 hf hS dX6_numberOf_32
  · have hf := (if_pos c1).symm.trans hf
    refine lv_aload_n hx hb dX6_numberOf_10 rfl (lv_at hl 0 rfl) ?_
    refine lv_aload_n hx hb dX6_numberOf_11 rfl (lv_at hl 0 rfl) ?_
    refine va_get (D := (dC, dI)) (ci := 6) (v := .ref (ad 2)) (C := RX6) (T := TX6) (N := 10) hx hb hts iw_X6_numberOf_X6 hown hK.1 hP 0 rfl rfl 2 (by decide) fl18 (fun _ h9 => h9) rfl dX6_numberOf_12 ?_
    refine lv_iload_n hx hb dX6_numberOf_15 rfl (lv_at hl 1 rfl) ?_
    have g0 := ql_in (ql_gt hf)
    have hf := ql_gx hf
    refine va_iald (f := (z 2)) hx hb hK.1 hP 3 0 rfl rfl g0 dX6_numberOf_16 ?_
    obtain ⟨u3, hu3, hf⟩ := ql_bd hf
    refine ql_callRVi (As := [.int ((z 2) x1.toNatClampNeg)]) (rest := []) C0 (c_X6_actAt l dC dI h ad cI N z ((z 2) x1.toNatClampNeg) u3 hu3) (cwV 1 hts gX6_numberOf_X6_actAt rfl rfl rfl qv_X6_actAt ⟨Nat.le_of_ble_eq_true rfl, Nat.le_of_ble_eq_true rfl⟩) (va_recv hK.1 hP (ci := 6) (q0 := 0) rfl rfl) hK hP hS hl.1 rfl rfl (Nat.le_of_ble_eq_true rfl) dX6_numberOf_17 (fun H1 locs hk hS => ?_)
    have hP := ql_keep hP hk
    refine lv_goto (tgt := 32) hx hb dX6_numberOf_20 (by decide) ?_
    exact ql_riret C0 hf hS dX6_numberOf_32
set_option maxRecDepth 100000 in
theorem c_X6_numberOf (l : Launch) (dC : Nat → ClassId) (dI : Nat → Nat → Nat) (h : Nat) (ad : Nat → Nat) (cI : ClassId) (N : Nat) (z : ql_St) (x1 : Int32) (res : Int32) (hf : f_X6_numberOf N z x1 = some res) : ql_Ri l yX6_numberOf wsX6_numberOf rm_X6_numberOf (dC, dI) [(cI, .int)] ((ql_pw h ad cI) z) [.ref h, .int x1] res :=
  ql_start_ri (by decide) rfl (Nat.le_of_ble_eq_true rfl) (fun p e s m below meth c A ls C0 hl hP hS => w_X6_numberOf_0 C0 N z x1 hf s.heap [] ls hP hS (lv_sub (show lv_has ls 2 [(0, .ref h), (1, .int x1)] from hl) [0, 1] rfl))
/-! ===== TestedLoops$Plan.run(II)I ===== -/
abbrev rm_X6_run : Room := { frames := 1, cells := 0, slots := 0, locals := 21 }
theorem iw_X6_run_X6 : ∀ w ∈ wsX60, w ∈ wsX6_run := fun w h => List.mem_cons_of_mem _ (List.mem_append_right _ h)
theorem qv_X6_run : yX6_run.cls = RX6 ∧ yX6_run.cls ≠ "java/lang/invoke/MethodHandle" ∧ yX6_run.cls ≠ "java/lang/invoke/VarHandle" ∧ (parseMethodDescriptor yX6_run.desc).map (fun d => d.parameters.length) = some 2 := by decide +kernel
def f_X6_run_78 (N : Nat) (z : ql_St) (k10 : Int32 → Int32 → Int32 → Option (Int32)) (x2 : Int32) (x4 : Int32) (y0 : Int32) : Option (Int32) := k10 x2 y0 (x4 + 1)
def f_X6_run_10 (N : Nat) (z : ql_St) : Nat → Int32 → Int32 → Int32 → Option (Int32)
  | 0, _, _, _ => none
  | n + 1, x2, x3, x4 => if (z 3 0) < x4 then some (-9) else if 0 ≤ x3 then if x3 < (z 3 0) then if ql_ib x3 300 = true then if ((z 0) x3.toNatClampNeg) = 1 then if ql_ib x3 300 = true then some ((z 2) x3.toNatClampNeg) else none else if ql_ib x3 300 = true then (f_X10_holds N ((z 1) x3.toNatClampNeg) x2).bind fun u5 => if u5 = 0 then if ql_ib x3 300 = true then f_X6_run_78 N z (f_X6_run_10 N z n) x2 x4 ((z 2) x3.toNatClampNeg) else none else f_X6_run_78 N z (f_X6_run_10 N z n) x2 x4 (x3 + 1) else none else none else some 0 else some (-9)
def f_X6_run_0 (N : Nat) (z : ql_St) (x1 : Int32) (x2 : Int32) : Option (Int32) := if ql_ib x1 17 = true then f_X6_run_10 N z N x2 ((z 4) x1.toNatClampNeg) 0 else none
def f_X6_run (N : Nat) (z : ql_St) (x1 : Int32) (x2 : Int32) : Option (Int32) := f_X6_run_0 N z x1 x2
set_option maxHeartbeats 4000000 in
set_option maxRecDepth 100000 in
theorem w_X6_run_78 {p : Program} {l : Launch} {e : Env} {s : State} {m : MethodId} {args : Array Value} {below : List Frame} {meth : Method} {c : Code} {dC : Nat → ClassId} {dI : Nat → Nat → Nat} {A : Nat → Prop} {h : Nat} {ad : Nat → Nat} {cI : ClassId} {res : Int32} (C0 : ql_C p s m args meth c cX6_run 5 (some .int) wsX6_run RX6 (dC, dI) [(cI, .int)] A) (N : Nat) (z : ql_St) (k10 : Int32 → Int32 → Int32 → Option (Int32)) (hk10 : ∀ (x2 : Int32) (x3 : Int32) (x4 : Int32), k10 x2 x3 x4 = some res → ∀ (H : Heap) (locs : List Loc) (ls : Array Slot), va_P (dC, dI) vwCl ((ql_pw h ad cI) z) H → va_S A s.heap H locs → lv_has ls 5 [(0, .ref h), (2, .int x2), (3, .int x3), (4, .int x4)] → W p l e rm_X6_run s m args below meth c H locs 0 0 (ql_Qri below A args s res) (F0 m 10 ls [])) : ∀ (x2 : Int32) (x4 : Int32) (y0 : Int32), f_X6_run_78 N z k10 x2 x4 y0 = some res → ∀ (H : Heap) (locs : List Loc) (ls : Array Slot), va_P (dC, dI) vwCl ((ql_pw h ad cI) z) H → va_S A s.heap H locs → lv_has ls 5 [(0, .ref h), (2, .int x2), (4, .int x4)] → W p l e rm_X6_run s m args below meth c H locs 0 0 (ql_Qri below A args s res) (F0 m 78 ls [.int y0]) := by
  have C0q := C0
  obtain ⟨hx, hb, hr, hml, hown, hts, hlocks, hK, hA⟩ := C0q
  intro x2 x4 y0 hf H locs ls hP hS hl
  unfold f_X6_run_78 at hf
  refine lv_istore_n (lv' := [(3, .int y0), (0, .ref h), (2, .int x2), (4, .int x4)]) hx hb dX6_run_78 rfl hl (by decide) rfl (fun ls hl => ?_)
  refine lv_iinc (v := (x4 + 1)) (lv' := [(4, .int (x4 + 1)), (3, .int y0), (0, .ref h), (2, .int x2)]) hx hb dX6_run_79 hl (k := 3) rfl rfl (by decide) rfl (fun ls hl => ?_)
  refine lv_goto (tgt := 10) hx hb dX6_run_82 (by decide) ?_
  exact hk10 _ _ _ hf _ _ _ hP hS (lv_sub hl [2, 3, 1, 0] rfl)
set_option maxHeartbeats 4000000 in
set_option maxRecDepth 100000 in
theorem w_X6_run_10 {p : Program} {l : Launch} {e : Env} {s : State} {m : MethodId} {args : Array Value} {below : List Frame} {meth : Method} {c : Code} {dC : Nat → ClassId} {dI : Nat → Nat → Nat} {A : Nat → Prop} {h : Nat} {ad : Nat → Nat} {cI : ClassId} {res : Int32} (C0 : ql_C p s m args meth c cX6_run 5 (some .int) wsX6_run RX6 (dC, dI) [(cI, .int)] A) (N : Nat) (z : ql_St) : ∀ (n : Nat), ∀ (x2 : Int32) (x3 : Int32) (x4 : Int32), f_X6_run_10 N z n x2 x3 x4 = some res → ∀ (H : Heap) (locs : List Loc) (ls : Array Slot), va_P (dC, dI) vwCl ((ql_pw h ad cI) z) H → va_S A s.heap H locs → lv_has ls 5 [(0, .ref h), (2, .int x2), (3, .int x3), (4, .int x4)] → W p l e rm_X6_run s m args below meth c H locs 0 0 (ql_Qri below A args s res) (F0 m 10 ls []) := by
  have C0q := C0
  obtain ⟨hx, hb, hr, hml, hown, hts, hlocks, hK, hA⟩ := C0q
  have fl40 := hts (Cond.fieldLink RX6 40 "TestedLoops$Plan" "steps" "I") (by decide +kernel)
  have fl9 := hts (Cond.fieldLink RX6 9 "TestedLoops$Plan" "kind" "[I") (by decide +kernel)
  have fl15 := hts (Cond.fieldLink RX6 15 "TestedLoops$Plan" "atoms" "[I") (by decide +kernel)
  have fl18 := hts (Cond.fieldLink RX6 18 "TestedLoops$Plan" "to" "[I") (by decide +kernel)
  intro n
  induction n with
  | zero =>
    intro x2 x3 x4 hf
    rw [f_X6_run_10] at hf
    cases hf
  | succ n ih =>
    intro x2 x3 x4 hf H locs ls hP hS hl
    rw [f_X6_run_10] at hf
    refine lv_iload hx hb dX6_run_10 (lv_at hl 3 rfl) ?_
    refine lv_aload_n hx hb dX6_run_12 rfl (lv_at hl 0 rfl) ?_
    refine va_get (D := (dC, dI)) (ci := 6) (v := .int (z 3 0)) (C := RX6) (T := TX6) (N := 10) hx hb hts iw_X6_run_X6 hown hK.1 hP 0 rfl rfl 3 (by decide) fl40 (fun _ h9 => h9) rfl dX6_run_13 ?_
    refine lv_icmp_gt (tgt := 85) hx hb dX6_run_16 (by decide) (fun c1 => ?_) (fun c1 => ?_)
    · have hf := (if_pos c1).symm.trans hf
      refine lv_bipush (v := (-9)) hx hb dX6_run_85 (by decide) ?_
      exact ql_riret C0 hf hS dX6_run_87
    · have hf := (if_neg c1).symm.trans hf
      refine lv_iload_n hx hb dX6_run_19 rfl (lv_at hl 2 rfl) ?_
      refine lv_if_ge (tgt := 26) hx hb dX6_run_20 (by decide) (fun c2 => ?_) (fun c2 => ?_)
      · have hf := (if_pos c2).symm.trans hf
        refine lv_iload_n hx hb dX6_run_26 rfl (lv_at hl 2 rfl) ?_
        refine lv_aload_n hx hb dX6_run_27 rfl (lv_at hl 0 rfl) ?_
        refine va_get (D := (dC, dI)) (ci := 6) (v := .int (z 3 0)) (C := RX6) (T := TX6) (N := 10) hx hb hts iw_X6_run_X6 hown hK.1 hP 0 rfl rfl 3 (by decide) fl40 (fun _ h9 => h9) rfl dX6_run_28 ?_
        refine lv_icmp_lt (tgt := 36) hx hb dX6_run_31 (by decide) (fun c3 => ?_) (fun c3 => ?_)
        · have hf := (if_pos c3).symm.trans hf
          refine lv_aload_n hx hb dX6_run_36 rfl (lv_at hl 0 rfl) ?_
          refine va_get (D := (dC, dI)) (ci := 6) (v := .ref (ad 0)) (C := RX6) (T := TX6) (N := 10) hx hb hts iw_X6_run_X6 hown hK.1 hP 0 rfl rfl 0 (by decide) fl9 (fun _ h9 => h9) rfl dX6_run_37 ?_
          refine lv_iload_n hx hb dX6_run_40 rfl (lv_at hl 2 rfl) ?_
          have g0 := ql_in (ql_gt hf)
          have hf := ql_gx hf
          refine va_iald (f := (z 0)) hx hb hK.1 hP 1 0 rfl rfl g0 dX6_run_41 ?_
          refine lv_iconst (v := 1) hx hb dX6_run_42 (by decide) ?_
          refine lv_icmp_ne (tgt := 53) hx hb dX6_run_43 (by decide) (fun c4 => ?_) (fun c4 => ?_)
          · have hf := (if_neg c4).symm.trans hf
            refine lv_aload_n hx hb dX6_run_53 rfl (lv_at hl 0 rfl) ?_
            refine va_get (D := (dC, dI)) (ci := 6) (v := .ref (ad 1)) (C := RX6) (T := TX6) (N := 10) hx hb hts iw_X6_run_X6 hown hK.1 hP 0 rfl rfl 1 (by decide) fl15 (fun _ h9 => h9) rfl dX6_run_54 ?_
            refine lv_iload_n hx hb dX6_run_57 rfl (lv_at hl 2 rfl) ?_
            have g0 := ql_in (ql_gt hf)
            have hf := ql_gx hf
            refine va_iald (f := (z 1)) hx hb hK.1 hP 2 0 rfl rfl g0 dX6_run_58 ?_
            refine lv_iload_n hx hb dX6_run_59 rfl (lv_at hl 1 rfl) ?_
            obtain ⟨u5, hu5, hf⟩ := ql_bd hf
            refine ql_callRNi (As := [.int ((z 1) x3.toNatClampNeg), .int x2]) (rest := []) C0 (c_X10_holds l dC dI N ((z 1) x3.toNatClampNeg) x2 u5 hu5) ⟨va_cnB 2 hts gX6_run_X10_holds_n71 rfl rfl rfl hK.2 (hts (.initialized RX10) (by decide +kernel)) qd_X10_holds ⟨Nat.le_of_ble_eq_true rfl, Nat.le_of_ble_eq_true rfl⟩, hts (.static yX10_holds) (by decide +kernel), trivial⟩ (hK.sub [] rfl) ql_nil hS hl.1 rfl rfl (Nat.le_of_ble_eq_true rfl) dX6_run_60 (fun H1 locs hk hS => ?_)
            have hP := ql_keep hP hk
            refine lv_if_eq (tgt := 72) hx hb dX6_run_63 (by decide) (fun c6 => ?_) (fun c6 => ?_)
            · have hf := (if_pos c6).symm.trans hf
              refine lv_aload_n hx hb dX6_run_72 rfl (lv_at hl 0 rfl) ?_
              refine va_get (D := (dC, dI)) (ci := 6) (v := .ref (ad 2)) (C := RX6) (T := TX6) (N := 10) hx hb hts iw_X6_run_X6 hown hK.1 hP 0 rfl rfl 2 (by decide) fl18 (fun _ h9 => h9) rfl dX6_run_73 ?_
              refine lv_iload_n hx hb dX6_run_76 rfl (lv_at hl 2 rfl) ?_
              have g0 := ql_in (ql_gt hf)
              have hf := ql_gx hf
              refine va_iald (f := (z 2)) hx hb hK.1 hP 3 0 rfl rfl g0 dX6_run_77 ?_
              exact w_X6_run_78 C0 N z (f_X6_run_10 N z n) ih _ _ _ hf _ _ _ hP hS (lv_sub hl [0, 1, 3] rfl)
            · have hf := (if_neg c6).symm.trans hf
              refine lv_iload_n hx hb dX6_run_66 rfl (lv_at hl 2 rfl) ?_
              refine lv_iconst (v := 1) hx hb dX6_run_67 (by decide) ?_
              refine lv_iadd hx hb dX6_run_68 ?_
              refine lv_goto (tgt := 78) hx hb dX6_run_69 (by decide) ?_
              exact w_X6_run_78 C0 N z (f_X6_run_10 N z n) ih _ _ _ hf _ _ _ hP hS (lv_sub hl [0, 1, 3] rfl)
          · have hf := (if_pos c4).symm.trans hf
            refine lv_aload_n hx hb dX6_run_46 rfl (lv_at hl 0 rfl) ?_
            refine va_get (D := (dC, dI)) (ci := 6) (v := .ref (ad 2)) (C := RX6) (T := TX6) (N := 10) hx hb hts iw_X6_run_X6 hown hK.1 hP 0 rfl rfl 2 (by decide) fl18 (fun _ h9 => h9) rfl dX6_run_47 ?_
            refine lv_iload_n hx hb dX6_run_50 rfl (lv_at hl 2 rfl) ?_
            have g0 := ql_in (ql_gt hf)
            have hf := ql_gx hf
            refine va_iald (f := (z 2)) hx hb hK.1 hP 3 0 rfl rfl g0 dX6_run_51 ?_
            exact ql_riret C0 hf hS dX6_run_52
        · have hf := (if_neg c3).symm.trans hf
          refine lv_iconst (v := 0) hx hb dX6_run_34 (by decide) ?_
          exact ql_riret C0 hf hS dX6_run_35
      · have hf := (if_neg c2).symm.trans hf
        refine lv_bipush (v := (-9)) hx hb dX6_run_23 (by decide) ?_
        exact ql_riret C0 hf hS dX6_run_25
set_option maxHeartbeats 4000000 in
set_option maxRecDepth 100000 in
theorem w_X6_run_0 {p : Program} {l : Launch} {e : Env} {s : State} {m : MethodId} {args : Array Value} {below : List Frame} {meth : Method} {c : Code} {dC : Nat → ClassId} {dI : Nat → Nat → Nat} {A : Nat → Prop} {h : Nat} {ad : Nat → Nat} {cI : ClassId} {res : Int32} (C0 : ql_C p s m args meth c cX6_run 5 (some .int) wsX6_run RX6 (dC, dI) [(cI, .int)] A) (N : Nat) (z : ql_St) : ∀ (x1 : Int32) (x2 : Int32), f_X6_run_0 N z x1 x2 = some res → ∀ (H : Heap) (locs : List Loc) (ls : Array Slot), va_P (dC, dI) vwCl ((ql_pw h ad cI) z) H → va_S A s.heap H locs → lv_has ls 5 [(0, .ref h), (1, .int x1), (2, .int x2)] → W p l e rm_X6_run s m args below meth c H locs 0 0 (ql_Qri below A args s res) (F0 m 0 ls []) := by
  have C0q := C0
  obtain ⟨hx, hb, hr, hml, hown, hts, hlocks, hK, hA⟩ := C0q
  have fl21 := hts (Cond.fieldLink RX6 21 "TestedLoops$Plan" "stepOf" "[I") (by decide +kernel)
  intro x1 x2 hf H locs ls hP hS hl
  unfold f_X6_run_0 at hf
  refine lv_aload_n hx hb dX6_run_0 rfl (lv_at hl 0 rfl) ?_
  refine va_get (D := (dC, dI)) (ci := 6) (v := .ref (ad 4)) (C := RX6) (T := TX6) (N := 10) hx hb hts iw_X6_run_X6 hown hK.1 hP 0 rfl rfl 4 (by decide) fl21 (fun _ h9 => h9) rfl dX6_run_1 ?_
  refine lv_iload_n hx hb dX6_run_4 rfl (lv_at hl 1 rfl) ?_
  have g0 := ql_in (ql_gt hf)
  have hf := ql_gx hf
  refine va_iald (f := (z 4)) hx hb hK.1 hP 4 0 rfl rfl g0 dX6_run_5 ?_
  refine lv_istore_n (lv' := [(3, .int ((z 4) x1.toNatClampNeg)), (0, .ref h), (1, .int x1), (2, .int x2)]) hx hb dX6_run_6 rfl hl (by decide) rfl (fun ls hl => ?_)
  refine lv_iconst (v := 0) hx hb dX6_run_7 (by decide) ?_
  refine lv_istore (lv' := [(4, .int 0), (3, .int ((z 4) x1.toNatClampNeg)), (0, .ref h), (1, .int x1), (2, .int x2)]) hx hb dX6_run_8 hl (by decide) rfl (fun ls hl => ?_)
  exact w_X6_run_10 C0 N z N _ _ _ hf _ _ _ hP hS (lv_sub hl [2, 4, 1, 0] rfl)
set_option maxRecDepth 100000 in
theorem c_X6_run (l : Launch) (dC : Nat → ClassId) (dI : Nat → Nat → Nat) (h : Nat) (ad : Nat → Nat) (cI : ClassId) (N : Nat) (z : ql_St) (x1 : Int32) (x2 : Int32) (res : Int32) (hf : f_X6_run N z x1 x2 = some res) : ql_Ri l yX6_run wsX6_run rm_X6_run (dC, dI) [(cI, .int)] ((ql_pw h ad cI) z) [.ref h, .int x1, .int x2] res :=
  ql_start_ri (by decide) rfl (Nat.le_of_ble_eq_true rfl) (fun p e s m below meth c A ls C0 hl hP hS => w_X6_run_0 C0 N z x1 x2 hf s.heap [] ls hP hS (lv_sub (show lv_has ls 5 [(0, .ref h), (1, .int x1), (2, .int x2)] from hl) [0, 1, 2] rfl))
/-! ===== TestedLoops$Plan.empty()V ===== -/
abbrev rm_X6_empty : Room := { frames := 0, cells := 0, slots := 0, locals := 0 }
theorem iw_X6_empty_X6 : ∀ w ∈ wsX60, w ∈ wsX6_empty := fun w h => List.mem_cons_of_mem _ (List.mem_append_right _ h)
theorem qv_X6_empty : yX6_empty.cls = RX6 ∧ yX6_empty.cls ≠ "java/lang/invoke/MethodHandle" ∧ yX6_empty.cls ≠ "java/lang/invoke/VarHandle" ∧ (parseMethodDescriptor yX6_empty.desc).map (fun d => d.parameters.length) = some 0 := by decide +kernel
def f_X6_empty_0 (N : Nat) (z : ql_St) : Option (ql_St) := some (ql_up (ql_up z 3 (fun _ => 0)) 6 (fun _ => 0))
def f_X6_empty (N : Nat) (z : ql_St) : Option (ql_St) := f_X6_empty_0 N z
set_option maxHeartbeats 4000000 in
set_option maxRecDepth 100000 in
theorem w_X6_empty_0 {p : Program} {l : Launch} {e : Env} {s : State} {m : MethodId} {args : Array Value} {below : List Frame} {meth : Method} {c : Code} {dC : Nat → ClassId} {dI : Nat → Nat → Nat} {A : Nat → Prop} {h : Nat} {ad : Nat → Nat} {cI : ClassId} {res : ql_St} (C0 : ql_C p s m args meth c cX6_empty 1 none wsX6_empty RX6 (dC, dI) [(cI, .int)] A) (N : Nat) : ∀ (z : ql_St), f_X6_empty_0 N z = some res → ∀ (H : Heap) (locs : List Loc) (ls : Array Slot), va_P (dC, dI) vwCl ((ql_pw h ad cI) z) H → va_D A ((ql_pw h ad cI) z) → va_S A s.heap H locs → lv_has ls 1 [(0, .ref h)] → W p l e rm_X6_empty s m args below meth c H locs 0 0 (ql_Qv below (dC, dI) (ql_pw h ad cI) A args s res) (F0 m 0 ls []) := by
  have C0q := C0
  obtain ⟨hx, hb, hr, hml, hown, hts, hlocks, hK, hA⟩ := C0q
  have fl40 := hts (Cond.fieldLink RX6 40 "TestedLoops$Plan" "steps" "I") (by decide +kernel)
  have fl44 := hts (Cond.fieldLink RX6 44 "TestedLoops$Plan" "places" "I") (by decide +kernel)
  intro z hf H locs ls hP hD hS hl
  unfold f_X6_empty_0 at hf
  refine lv_aload_n hx hb dX6_empty_0 rfl (lv_at hl 0 rfl) ?_
  refine lv_iconst (v := 0) hx hb dX6_empty_1 (by decide) ?_
  refine va_put (D := (dC, dI)) (ci := 6) (v := .int 0) (ty := .int) (C := RX6) (T := TX6) (N := 10) hx hb hts iw_X6_empty_X6 tyX6 tyX6_ok nmX6 hown hK.1 hP hD hS 0 rfl rfl 3 (by decide) fl40 (fun _ h9 => h9) rfl (by decide +kernel) rfl rfl (Nat.le_of_ble_eq_true rfl) dX6_empty_2 (fun H locs hP hD hS => ?_)
  refine lv_aload_n hx hb dX6_empty_5 rfl (lv_at hl 0 rfl) ?_
  refine lv_iconst (v := 0) hx hb dX6_empty_6 (by decide) ?_
  refine va_put (D := (dC, dI)) (ci := 6) (v := .int 0) (ty := .int) (C := RX6) (T := TX6) (N := 10) hx hb hts iw_X6_empty_X6 tyX6 tyX6_ok nmX6 hown hK.1 hP hD hS 0 rfl rfl 6 (by decide) fl44 (fun _ h9 => h9) rfl (by decide +kernel) rfl rfl (Nat.le_of_ble_eq_true rfl) dX6_empty_7 (fun H locs hP hD hS => ?_)
  exact ql_vret C0 hf hP hD hS dX6_empty_10
set_option maxRecDepth 100000 in
theorem c_X6_empty (l : Launch) (dC : Nat → ClassId) (dI : Nat → Nat → Nat) (h : Nat) (ad : Nat → Nat) (cI : ClassId) (N : Nat) (z : ql_St) (res : ql_St) (hf : f_X6_empty N z = some res) : ql_Mv l yX6_empty wsX6_empty rm_X6_empty (dC, dI) [(cI, .int)] (ql_pw h ad cI) [.ref h] z res :=
  ql_start_v (by decide) rfl (Nat.le_of_ble_eq_true rfl) (fun p e s m below meth c A ls C0 hl hP hD hS => w_X6_empty_0 C0 N z hf s.heap [] ls hP hD hS (lv_sub (show lv_has ls 1 [(0, .ref h)] from hl) [0] rfl))
/-! ===== TestedLoops$Plan.add(III)I ===== -/
abbrev rm_X6_add : Room := { frames := 1, cells := 0, slots := 0, locals := 21 }
theorem iw_X6_add_X6 : ∀ w ∈ wsX60, w ∈ wsX6_add := fun w h => List.mem_cons_of_mem _ (List.mem_append_right _ h)
theorem qv_X6_add : yX6_add.cls = RX6 ∧ yX6_add.cls ≠ "java/lang/invoke/MethodHandle" ∧ yX6_add.cls ≠ "java/lang/invoke/VarHandle" ∧ (parseMethodDescriptor yX6_add.desc).map (fun d => d.parameters.length) = some 3 := by decide +kernel
def f_X6_add_0 (N : Nat) (z : ql_St) (x1 : Int32) (x2 : Int32) (x3 : Int32) : Option (Int32 × ql_St) := if ql_ib (if 299 < (z 3 0) then 299 else (z 3 0)) 300 = true then if ql_ib (if 299 < (z 3 0) then 299 else (z 3 0)) 300 = true then if ql_ib (if 299 < (z 3 0) then 299 else (z 3 0)) 300 = true then some ((if 299 < (z 3 0) then 299 else (z 3 0)), (ql_up (ql_up (ql_up (ql_up z 0 (upd (z 0) ((if 299 < (z 3 0) then 299 else (z 3 0)).toNatClampNeg) x1)) 1 (upd (z 1) ((if 299 < (z 3 0) then 299 else (z 3 0)).toNatClampNeg) x2)) 2 (upd (z 2) ((if 299 < (z 3 0) then 299 else (z 3 0)).toNatClampNeg) x3)) 3 (fun _ => ((if 299 < (z 3 0) then 299 else (z 3 0)) + 1)))) else none else none else none
def f_X6_add (N : Nat) (z : ql_St) (x1 : Int32) (x2 : Int32) (x3 : Int32) : Option (Int32 × ql_St) := f_X6_add_0 N z x1 x2 x3
set_option maxHeartbeats 4000000 in
set_option maxRecDepth 100000 in
theorem w_X6_add_0 {p : Program} {l : Launch} {e : Env} {s : State} {m : MethodId} {args : Array Value} {below : List Frame} {meth : Method} {c : Code} {dC : Nat → ClassId} {dI : Nat → Nat → Nat} {A : Nat → Prop} {h : Nat} {ad : Nat → Nat} {cI : ClassId} {res : Int32 × ql_St} (C0 : ql_C p s m args meth c cX6_add 5 (some .int) wsX6_add RX6 (dC, dI) [(cI, .int)] A) (N : Nat) : ∀ (z : ql_St) (x1 : Int32) (x2 : Int32) (x3 : Int32), f_X6_add_0 N z x1 x2 x3 = some res → ∀ (H : Heap) (locs : List Loc) (ls : Array Slot), va_P (dC, dI) vwCl ((ql_pw h ad cI) z) H → va_D A ((ql_pw h ad cI) z) → va_S A s.heap H locs → lv_has ls 5 [(0, .ref h), (1, .int x1), (2, .int x2), (3, .int x3)] → W p l e rm_X6_add s m args below meth c H locs 0 0 (ql_Qi below (dC, dI) (ql_pw h ad cI) A args s res) (F0 m 0 ls []) := by
  have C0q := C0
  obtain ⟨hx, hb, hr, hml, hown, hts, hlocks, hK, hA⟩ := C0q
  have fl40 := hts (Cond.fieldLink RX6 40 "TestedLoops$Plan" "steps" "I") (by decide +kernel)
  have fl9 := hts (Cond.fieldLink RX6 9 "TestedLoops$Plan" "kind" "[I") (by decide +kernel)
  have fl15 := hts (Cond.fieldLink RX6 15 "TestedLoops$Plan" "atoms" "[I") (by decide +kernel)
  have fl18 := hts (Cond.fieldLink RX6 18 "TestedLoops$Plan" "to" "[I") (by decide +kernel)
  intro z x1 x2 x3 hf H locs ls hP hD hS hl
  unfold f_X6_add_0 at hf
  refine lv_aload_n hx hb dX6_add_0 rfl (lv_at hl 0 rfl) ?_
  refine va_get (D := (dC, dI)) (ci := 6) (v := .int (z 3 0)) (C := RX6) (T := TX6) (N := 10) hx hb hts iw_X6_add_X6 hown hK.1 hP 0 rfl rfl 3 (by decide) fl40 (fun _ h9 => h9) rfl dX6_add_1 ?_
  refine lv_sipush (v := 299) hx hb dX6_add_4 (by decide) ?_
  refine va_mmin hx hb (hml.trans hl.1.symm) hown (hts (.methodLink RX6 47 Lib.Math.min.name) (by decide +kernel)) (hts (.static Lib.Math.min.name) (by decide +kernel)) (hts (.initialized "java/lang/Math") (by decide +kernel)) (hts (.code Lib.Math.min.name Lib.Math.min.code 2 (some .int)) (by decide +kernel)) (Nat.le_of_ble_eq_true rfl) (Nat.le_of_ble_eq_true rfl) (Nat.zero_le _) (Nat.zero_le _) dX6_add_7 ?_
  refine lv_istore (lv' := [(4, .int (if 299 < (z 3 0) then 299 else (z 3 0))), (0, .ref h), (1, .int x1), (2, .int x2), (3, .int x3)]) hx hb dX6_add_10 hl (by decide) rfl (fun ls hl => ?_)
  refine lv_aload_n hx hb dX6_add_12 rfl (lv_at hl 1 rfl) ?_
  refine va_get (D := (dC, dI)) (ci := 6) (v := .ref (ad 0)) (C := RX6) (T := TX6) (N := 10) hx hb hts iw_X6_add_X6 hown hK.1 hP 0 rfl rfl 0 (by decide) fl9 (fun _ h9 => h9) rfl dX6_add_13 ?_
  refine lv_iload hx hb dX6_add_16 (lv_at hl 0 rfl) ?_
  refine lv_iload_n hx hb dX6_add_18 rfl (lv_at hl 2 rfl) ?_
  have g0 := ql_in (ql_gt hf)
  have hf := ql_gx hf
  refine va_iast (f := (z 0)) hx hb hK.1 hP hD hS 1 0 rfl rfl g0 dX6_add_19 (fun H locs hP hD hS => ?_)
  refine lv_aload_n hx hb dX6_add_20 rfl (lv_at hl 1 rfl) ?_
  refine va_get (D := (dC, dI)) (ci := 6) (v := .ref (ad 1)) (C := RX6) (T := TX6) (N := 10) hx hb hts iw_X6_add_X6 hown hK.1 hP 0 rfl rfl 1 (by decide) fl15 (fun _ h9 => h9) rfl dX6_add_21 ?_
  refine lv_iload hx hb dX6_add_24 (lv_at hl 0 rfl) ?_
  refine lv_iload_n hx hb dX6_add_26 rfl (lv_at hl 3 rfl) ?_
  have g0 := ql_in (ql_gt hf)
  have hf := ql_gx hf
  refine va_iast (f := (z 1)) hx hb hK.1 hP hD hS 2 0 rfl rfl g0 dX6_add_27 (fun H locs hP hD hS => ?_)
  refine lv_aload_n hx hb dX6_add_28 rfl (lv_at hl 1 rfl) ?_
  refine va_get (D := (dC, dI)) (ci := 6) (v := .ref (ad 2)) (C := RX6) (T := TX6) (N := 10) hx hb hts iw_X6_add_X6 hown hK.1 hP 0 rfl rfl 2 (by decide) fl18 (fun _ h9 => h9) rfl dX6_add_29 ?_
  refine lv_iload hx hb dX6_add_32 (lv_at hl 0 rfl) ?_
  refine lv_iload_n hx hb dX6_add_34 rfl (lv_at hl 4 rfl) ?_
  have g0 := ql_in (ql_gt hf)
  have hf := ql_gx hf
  refine va_iast (f := (z 2)) hx hb hK.1 hP hD hS 3 0 rfl rfl g0 dX6_add_35 (fun H locs hP hD hS => ?_)
  refine lv_aload_n hx hb dX6_add_36 rfl (lv_at hl 1 rfl) ?_
  refine lv_iload hx hb dX6_add_37 (lv_at hl 0 rfl) ?_
  refine lv_iconst (v := 1) hx hb dX6_add_39 (by decide) ?_
  refine lv_iadd hx hb dX6_add_40 ?_
  refine va_put (D := (dC, dI)) (ci := 6) (v := .int ((if 299 < (z 3 0) then 299 else (z 3 0)) + 1)) (ty := .int) (C := RX6) (T := TX6) (N := 10) hx hb hts iw_X6_add_X6 tyX6 tyX6_ok nmX6 hown hK.1 hP hD hS 0 rfl rfl 3 (by decide) fl40 (fun _ h9 => h9) rfl (by decide +kernel) rfl rfl (Nat.le_of_ble_eq_true rfl) dX6_add_41 (fun H locs hP hD hS => ?_)
  refine lv_iload hx hb dX6_add_44 (lv_at hl 0 rfl) ?_
  exact ql_iret C0 hf hP hD hS dX6_add_46
set_option maxRecDepth 100000 in
theorem c_X6_add (l : Launch) (dC : Nat → ClassId) (dI : Nat → Nat → Nat) (h : Nat) (ad : Nat → Nat) (cI : ClassId) (N : Nat) (z : ql_St) (x1 : Int32) (x2 : Int32) (x3 : Int32) (res : Int32 × ql_St) (hf : f_X6_add N z x1 x2 x3 = some res) : ql_Mi l yX6_add wsX6_add rm_X6_add (dC, dI) [(cI, .int)] (ql_pw h ad cI) [.ref h, .int x1, .int x2, .int x3] z res :=
  ql_start_i (by decide) rfl (Nat.le_of_ble_eq_true rfl) (fun p e s m below meth c A ls C0 hl hP hD hS => w_X6_add_0 C0 N z x1 x2 x3 hf s.heap [] ls hP hD hS (lv_sub (show lv_has ls 5 [(0, .ref h), (1, .int x1), (2, .int x2), (3, .int x3)] from hl) [0, 1, 2, 3] rfl))
/-! ===== TestedLoops$Plan.addPlace(I)Z ===== -/
abbrev rm_X6_addPlace : Room := { frames := 2, cells := 0, slots := 0, locals := 45 }
theorem iw_X6_addPlace_X6 : ∀ w ∈ wsX60, w ∈ wsX6_addPlace := fun w h => List.mem_cons_of_mem _ (List.mem_append_right _ h)
theorem qv_X6_addPlace : yX6_addPlace.cls = RX6 ∧ yX6_addPlace.cls ≠ "java/lang/invoke/MethodHandle" ∧ yX6_addPlace.cls ≠ "java/lang/invoke/VarHandle" ∧ (parseMethodDescriptor yX6_addPlace.desc).map (fun d => d.parameters.length) = some 1 := by decide +kernel
def f_X6_addPlace_0 (N : Nat) (z : ql_St) (x1 : Int32) : Option (Int32 × ql_St) := if (z 6 0) < 16 then (f_X6_add N (ql_up z 6 (fun _ => ((z 6 0) + 1))) 1 15 ((z 6 0) + 1)).bind fun u2 => if ql_ib (u2.2 6 0) 17 = true then if ql_ib (u2.2 6 0) 17 = true then some (1, (ql_up (ql_up u2.2 4 (upd (u2.2 4) ((u2.2 6 0).toNatClampNeg) (u2.2 3 0))) 5 (upd (u2.2 5) ((u2.2 6 0).toNatClampNeg) x1))) else none else none else some (0, z)
def f_X6_addPlace (N : Nat) (z : ql_St) (x1 : Int32) : Option (Int32 × ql_St) := f_X6_addPlace_0 N z x1
set_option maxHeartbeats 4000000 in
set_option maxRecDepth 100000 in
theorem w_X6_addPlace_0 {p : Program} {l : Launch} {e : Env} {s : State} {m : MethodId} {args : Array Value} {below : List Frame} {meth : Method} {c : Code} {dC : Nat → ClassId} {dI : Nat → Nat → Nat} {A : Nat → Prop} {h : Nat} {ad : Nat → Nat} {cI : ClassId} {res : Int32 × ql_St} (C0 : ql_C p s m args meth c cX6_addPlace 2 (some .boolean) wsX6_addPlace RX6 (dC, dI) [(cI, .int)] A) (N : Nat) : ∀ (z : ql_St) (x1 : Int32), f_X6_addPlace_0 N z x1 = some res → ∀ (H : Heap) (locs : List Loc) (ls : Array Slot), va_P (dC, dI) vwCl ((ql_pw h ad cI) z) H → va_D A ((ql_pw h ad cI) z) → va_S A s.heap H locs → lv_has ls 2 [(0, .ref h), (1, .int x1)] → W p l e rm_X6_addPlace s m args below meth c H locs 0 0 (ql_Qi below (dC, dI) (ql_pw h ad cI) A args s res) (F0 m 0 ls []) := by
  have C0q := C0
  obtain ⟨hx, hb, hr, hml, hown, hts, hlocks, hK, hA⟩ := C0q
  have fl44 := hts (Cond.fieldLink RX6 44 "TestedLoops$Plan" "places" "I") (by decide +kernel)
  have fl21 := hts (Cond.fieldLink RX6 21 "TestedLoops$Plan" "stepOf" "[I") (by decide +kernel)
  have fl40 := hts (Cond.fieldLink RX6 40 "TestedLoops$Plan" "steps" "I") (by decide +kernel)
  have fl24 := hts (Cond.fieldLink RX6 24 "TestedLoops$Plan" "actOf" "[I") (by decide +kernel)
  intro z x1 hf H locs ls hP hD hS hl
  unfold f_X6_addPlace_0 at hf
  refine lv_aload_n hx hb dX6_addPlace_0 rfl (lv_at hl 0 rfl) ?_
  refine va_get (D := (dC, dI)) (ci := 6) (v := .int (z 6 0)) (C := RX6) (T := TX6) (N := 10) hx hb hts iw_X6_addPlace_X6 hown hK.1 hP 0 rfl rfl 6 (by decide) fl44 (fun _ h9 => h9) rfl dX6_addPlace_1 ?_
  refine lv_bipush (v := 16) hx hb dX6_addPlace_4 (by decide) ?_
  refine lv_icmp_lt (tgt := 11) hx hb dX6_addPlace_6 (by decide) (fun c1 => ?_) (fun c1 => ?_)
  · have hf := (if_pos c1).symm.trans hf
    refine lv_aload_n hx hb dX6_addPlace_11 rfl (lv_at hl 0 rfl) ?_
    refine lv_dup hx hb dX6_addPlace_12 rfl ?_
    refine va_get (D := (dC, dI)) (ci := 6) (v := .int (z 6 0)) (C := RX6) (T := TX6) (N := 10) hx hb hts iw_X6_addPlace_X6 hown hK.1 hP 0 rfl rfl 6 (by decide) fl44 (fun _ h9 => h9) rfl dX6_addPlace_13 ?_
    refine lv_iconst (v := 1) hx hb dX6_addPlace_16 (by decide) ?_
    refine lv_iadd hx hb dX6_addPlace_17 ?_
    refine va_put (D := (dC, dI)) (ci := 6) (v := .int ((z 6 0) + 1)) (ty := .int) (C := RX6) (T := TX6) (N := 10) hx hb hts iw_X6_addPlace_X6 tyX6 tyX6_ok nmX6 hown hK.1 hP hD hS 0 rfl rfl 6 (by decide) fl44 (fun _ h9 => h9) rfl (by decide +kernel) rfl rfl (Nat.le_of_ble_eq_true rfl) dX6_addPlace_18 (fun H locs hP hD hS => ?_)
    refine lv_aload_n hx hb dX6_addPlace_21 rfl (lv_at hl 0 rfl) ?_
    refine lv_iconst (v := 1) hx hb dX6_addPlace_22 (by decide) ?_
    refine lv_bipush (v := 15) hx hb dX6_addPlace_23 (by decide) ?_
    refine lv_aload_n hx hb dX6_addPlace_25 rfl (lv_at hl 0 rfl) ?_
    refine va_get (D := (dC, dI)) (ci := 6) (v := .int ((z 6 0) + 1)) (C := RX6) (T := TX6) (N := 10) hx hb hts iw_X6_addPlace_X6 hown hK.1 hP 0 rfl rfl 6 (by decide) fl44 (fun _ h9 => h9) rfl dX6_addPlace_26 ?_
    obtain ⟨u2, hu2, hf⟩ := ql_bd hf
    refine ql_callVi (As := [.int 1, .int 15, .int ((z 6 0) + 1)]) (rest := []) C0 (c_X6_add l dC dI h ad cI N (ql_up z 6 (fun _ => ((z 6 0) + 1))) 1 15 ((z 6 0) + 1) u2 hu2) (cwV 3 hts gX6_addPlace_X6_add rfl rfl rfl qv_X6_add ⟨Nat.le_of_ble_eq_true rfl, Nat.le_of_ble_eq_true rfl⟩) (va_recv hK.1 hP (ci := 6) (q0 := 0) rfl rfl) hP hD hS hl.1 rfl rfl (Nat.le_of_ble_eq_true rfl) dX6_addPlace_29 (fun H locs hP hD hS => ?_)
    refine lv_pop hx hb dX6_addPlace_32 rfl ?_
    refine lv_aload_n hx hb dX6_addPlace_33 rfl (lv_at hl 0 rfl) ?_
    refine va_get (D := (dC, dI)) (ci := 6) (v := .ref (ad 4)) (C := RX6) (T := TX6) (N := 10) hx hb hts iw_X6_addPlace_X6 hown hK.1 hP 0 rfl rfl 4 (by decide) fl21 (fun _ h9 => h9) rfl dX6_addPlace_34 ?_
    refine lv_aload_n hx hb dX6_addPlace_37 rfl (lv_at hl 0 rfl) ?_
    refine va_get (D := (dC, dI)) (ci := 6) (v := .int (u2.2 6 0)) (C := RX6) (T := TX6) (N := 10) hx hb hts iw_X6_addPlace_X6 hown hK.1 hP 0 rfl rfl 6 (by decide) fl44 (fun _ h9 => h9) rfl dX6_addPlace_38 ?_
    refine lv_aload_n hx hb dX6_addPlace_41 rfl (lv_at hl 0 rfl) ?_
    refine va_get (D := (dC, dI)) (ci := 6) (v := .int (u2.2 3 0)) (C := RX6) (T := TX6) (N := 10) hx hb hts iw_X6_addPlace_X6 hown hK.1 hP 0 rfl rfl 3 (by decide) fl40 (fun _ h9 => h9) rfl dX6_addPlace_42 ?_
    have g0 := ql_in (ql_gt hf)
    have hf := ql_gx hf
    refine va_iast (f := (u2.2 4)) hx hb hK.1 hP hD hS 4 0 rfl rfl g0 dX6_addPlace_45 (fun H locs hP hD hS => ?_)
    refine lv_aload_n hx hb dX6_addPlace_46 rfl (lv_at hl 0 rfl) ?_
    refine va_get (D := (dC, dI)) (ci := 6) (v := .ref (ad 5)) (C := RX6) (T := TX6) (N := 10) hx hb hts iw_X6_addPlace_X6 hown hK.1 hP 0 rfl rfl 5 (by decide) fl24 (fun _ h9 => h9) rfl dX6_addPlace_47 ?_
    refine lv_aload_n hx hb dX6_addPlace_50 rfl (lv_at hl 0 rfl) ?_
    refine va_get (D := (dC, dI)) (ci := 6) (v := .int (u2.2 6 0)) (C := RX6) (T := TX6) (N := 10) hx hb hts iw_X6_addPlace_X6 hown hK.1 hP 0 rfl rfl 6 (by decide) fl44 (fun _ h9 => h9) rfl dX6_addPlace_51 ?_
    refine lv_iload_n hx hb dX6_addPlace_54 rfl (lv_at hl 1 rfl) ?_
    have g0 := ql_in (ql_gt hf)
    have hf := ql_gx hf
    refine va_iast (f := (u2.2 5)) hx hb hK.1 hP hD hS 5 0 rfl rfl g0 dX6_addPlace_55 (fun H locs hP hD hS => ?_)
    refine lv_iconst (v := 1) hx hb dX6_addPlace_56 (by decide) ?_
    exact ql_zret C0 (Or.inr rfl) hf hP hD hS dX6_addPlace_57
  · have hf := (if_neg c1).symm.trans hf
    refine lv_iconst (v := 0) hx hb dX6_addPlace_9 (by decide) ?_
    exact ql_zret C0 (Or.inl rfl) hf hP hD hS dX6_addPlace_10
set_option maxRecDepth 100000 in
theorem c_X6_addPlace (l : Launch) (dC : Nat → ClassId) (dI : Nat → Nat → Nat) (h : Nat) (ad : Nat → Nat) (cI : ClassId) (N : Nat) (z : ql_St) (x1 : Int32) (res : Int32 × ql_St) (hf : f_X6_addPlace N z x1 = some res) : ql_Mi l yX6_addPlace wsX6_addPlace rm_X6_addPlace (dC, dI) [(cI, .int)] (ql_pw h ad cI) [.ref h, .int x1] z res :=
  ql_start_i (by decide) rfl (Nat.le_of_ble_eq_true rfl) (fun p e s m below meth c A ls C0 hl hP hD hS => w_X6_addPlace_0 C0 N z x1 hf s.heap [] ls hP hD hS (lv_sub (show lv_has ls 2 [(0, .ref h), (1, .int x1)] from hl) [0, 1] rfl))
/-! ===== TestedLoops$Plan.gatherLasts()V ===== -/
abbrev rm_X6_gatherLasts : Room := { frames := 3, cells := 0, slots := 0, locals := 67 }
theorem iw_X6_gatherLasts_X6 : ∀ w ∈ wsX60, w ∈ wsX6_gatherLasts := fun w h => List.mem_cons_of_mem _ (List.mem_append_right _ h)
theorem qv_X6_gatherLasts : yX6_gatherLasts.cls = RX6 ∧ yX6_gatherLasts.cls ≠ "java/lang/invoke/MethodHandle" ∧ yX6_gatherLasts.cls ≠ "java/lang/invoke/VarHandle" ∧ (parseMethodDescriptor yX6_gatherLasts.desc).map (fun d => d.parameters.length) = some 0 := by decide +kernel
def f_X6_gatherLasts_45 (N : Nat) (k25 : ql_St → Int32 → Option (ql_St)) (k35 : ql_St → Int32 → Int32 → Option (ql_St)) : Nat → ql_St → Int32 → Int32 → Int32 → Option (ql_St)
  | 0, _, _, _, _ => none
  | n + 1, z, x1, x2, x3 => if 4 ≤ x3 then k35 z x1 (x2 + 1) else if ql_ib x2 17 = true then (f_X6_lastsBy N z x2 x3).bind fun u2 => if ql_ib x2 17 = true then f_X6_gatherLasts_45 N k25 k35 n (ql_up z 8 (upd (z 8) x2.toNatClampNeg (((z 8) x2.toNatClampNeg) ||| u2))) x1 x2 (x3 + 1) else none else none
def f_X6_gatherLasts_35 (N : Nat) (k25 : ql_St → Int32 → Option (ql_St)) : Nat → ql_St → Int32 → Int32 → Option (ql_St)
  | 0, _, _, _ => none
  | n + 1, z, x1, x2 => if (z 6 0) < x2 then k25 z (x1 + 1) else f_X6_gatherLasts_45 N k25 (f_X6_gatherLasts_35 N k25 n) N z x1 x2 0
def f_X6_gatherLasts_25 (N : Nat) : Nat → ql_St → Int32 → Option (ql_St)
  | 0, _, _ => none
  | n + 1, z, x1 => if (z 6 0) < x1 then some z else f_X6_gatherLasts_35 N (f_X6_gatherLasts_25 N n) N z x1 0
def f_X6_gatherLasts_2 (N : Nat) : Nat → ql_St → Int32 → Option (ql_St)
  | 0, _, _ => none
  | n + 1, z, x1 => if (z 6 0) < x1 then f_X6_gatherLasts_25 N N z 0 else if ql_ib x1 17 = true then f_X6_gatherLasts_2 N n (ql_up z 8 (upd (z 8) x1.toNatClampNeg 0)) (x1 + 1) else none
def f_X6_gatherLasts_0 (N : Nat) (z : ql_St) : Option (ql_St) := f_X6_gatherLasts_2 N N z 0
def f_X6_gatherLasts (N : Nat) (z : ql_St) : Option (ql_St) := f_X6_gatherLasts_0 N z
set_option maxHeartbeats 4000000 in
set_option maxRecDepth 100000 in
theorem w_X6_gatherLasts_45 {p : Program} {l : Launch} {e : Env} {s : State} {m : MethodId} {args : Array Value} {below : List Frame} {meth : Method} {c : Code} {dC : Nat → ClassId} {dI : Nat → Nat → Nat} {A : Nat → Prop} {h : Nat} {ad : Nat → Nat} {cI : ClassId} {res : ql_St} (C0 : ql_C p s m args meth c cX6_gatherLasts 4 none wsX6_gatherLasts RX6 (dC, dI) [(cI, .int)] A) (N : Nat) (k25 : ql_St → Int32 → Option (ql_St)) (hk25 : ∀ (z : ql_St) (x1 : Int32), k25 z x1 = some res → ∀ (H : Heap) (locs : List Loc) (ls : Array Slot), va_P (dC, dI) vwCl ((ql_pw h ad cI) z) H → va_D A ((ql_pw h ad cI) z) → va_S A s.heap H locs → lv_has ls 4 [(0, .ref h), (1, .int x1)] → W p l e rm_X6_gatherLasts s m args below meth c H locs 0 0 (ql_Qv below (dC, dI) (ql_pw h ad cI) A args s res) (F0 m 25 ls [])) (k35 : ql_St → Int32 → Int32 → Option (ql_St)) (hk35 : ∀ (z : ql_St) (x1 : Int32) (x2 : Int32), k35 z x1 x2 = some res → ∀ (H : Heap) (locs : List Loc) (ls : Array Slot), va_P (dC, dI) vwCl ((ql_pw h ad cI) z) H → va_D A ((ql_pw h ad cI) z) → va_S A s.heap H locs → lv_has ls 4 [(0, .ref h), (1, .int x1), (2, .int x2)] → W p l e rm_X6_gatherLasts s m args below meth c H locs 0 0 (ql_Qv below (dC, dI) (ql_pw h ad cI) A args s res) (F0 m 35 ls [])) : ∀ (n : Nat), ∀ (z : ql_St) (x1 : Int32) (x2 : Int32) (x3 : Int32), f_X6_gatherLasts_45 N k25 k35 n z x1 x2 x3 = some res → ∀ (H : Heap) (locs : List Loc) (ls : Array Slot), va_P (dC, dI) vwCl ((ql_pw h ad cI) z) H → va_D A ((ql_pw h ad cI) z) → va_S A s.heap H locs → lv_has ls 4 [(0, .ref h), (1, .int x1), (2, .int x2), (3, .int x3)] → W p l e rm_X6_gatherLasts s m args below meth c H locs 0 0 (ql_Qv below (dC, dI) (ql_pw h ad cI) A args s res) (F0 m 45 ls []) := by
  have C0q := C0
  obtain ⟨hx, hb, hr, hml, hown, hts, hlocks, hK, hA⟩ := C0q
  have fl30 := hts (Cond.fieldLink RX6 30 "TestedLoops$Plan" "lasts" "[I") (by decide +kernel)
  intro n
  induction n with
  | zero =>
    intro z x1 x2 x3 hf
    rw [f_X6_gatherLasts_45] at hf
    cases hf
  | succ n ih =>
    intro z x1 x2 x3 hf H locs ls hP hD hS hl
    rw [f_X6_gatherLasts_45] at hf
    refine lv_iload_n hx hb dX6_gatherLasts_45 rfl (lv_at hl 3 rfl) ?_
    refine lv_iconst (v := 4) hx hb dX6_gatherLasts_46 (by decide) ?_
    refine lv_icmp_ge (tgt := 71) hx hb dX6_gatherLasts_47 (by decide) (fun c1 => ?_) (fun c1 => ?_)
    · have hf := (if_pos c1).symm.trans hf
      refine lv_iinc (v := (x2 + 1)) (lv' := [(2, .int (x2 + 1)), (0, .ref h), (1, .int x1), (3, .int x3)]) hx hb dX6_gatherLasts_71 hl (k := 2) rfl rfl (by decide) rfl (fun ls hl => ?_)
      refine lv_goto (tgt := 35) hx hb dX6_gatherLasts_74 (by decide) ?_
      exact hk35 _ _ _ hf _ _ _ hP hD hS (lv_sub hl [1, 2, 0] rfl)
    · have hf := (if_neg c1).symm.trans hf
      refine lv_aload_n hx hb dX6_gatherLasts_50 rfl (lv_at hl 0 rfl) ?_
      refine va_get (D := (dC, dI)) (ci := 6) (v := .ref (ad 8)) (C := RX6) (T := TX6) (N := 10) hx hb hts iw_X6_gatherLasts_X6 hown hK.1 hP 0 rfl rfl 8 (by decide) fl30 (fun _ h9 => h9) rfl dX6_gatherLasts_51 ?_
      refine lv_iload_n hx hb dX6_gatherLasts_54 rfl (lv_at hl 2 rfl) ?_
      refine lv_dup2_11 hx hb dX6_gatherLasts_55 rfl rfl ?_
      have g0 := ql_in (ql_gt hf)
      have hf := ql_gx hf
      refine va_iald (f := (z 8)) hx hb hK.1 hP 7 0 rfl rfl g0 dX6_gatherLasts_56 ?_
      refine lv_aload_n hx hb dX6_gatherLasts_57 rfl (lv_at hl 0 rfl) ?_
      refine lv_iload_n hx hb dX6_gatherLasts_58 rfl (lv_at hl 2 rfl) ?_
      refine lv_iload_n hx hb dX6_gatherLasts_59 rfl (lv_at hl 3 rfl) ?_
      obtain ⟨u2, hu2, hf⟩ := ql_bd hf
      refine ql_callRVi (As := [.int x2, .int x3]) (rest := [.int ((z 8) x2.toNatClampNeg), .int x2, .ref (ad 8)]) C0 (c_X6_lastsBy l dC dI h ad cI N z x2 x3 u2 hu2) (cwV 2 hts gX6_gatherLasts_X6_lastsBy rfl rfl rfl qv_X6_lastsBy ⟨Nat.le_of_ble_eq_true rfl, Nat.le_of_ble_eq_true rfl⟩) (va_recv hK.1 hP (ci := 6) (q0 := 0) rfl rfl) hK hP hS hl.1 rfl rfl (Nat.le_of_ble_eq_true rfl) dX6_gatherLasts_60 (fun H1 locs hk hS => ?_)
      have hP := ql_keep hP hk
      refine lv_ior hx hb dX6_gatherLasts_63 ?_
      have g0 := ql_in (ql_gt hf)
      have hf := ql_gx hf
      refine va_iast (f := (z 8)) hx hb hK.1 hP hD hS 7 0 rfl rfl g0 dX6_gatherLasts_64 (fun H locs hP hD hS => ?_)
      refine lv_iinc (v := (x3 + 1)) (lv' := [(3, .int (x3 + 1)), (0, .ref h), (1, .int x1), (2, .int x2)]) hx hb dX6_gatherLasts_65 hl (k := 3) rfl rfl (by decide) rfl (fun ls hl => ?_)
      refine lv_goto (tgt := 45) hx hb dX6_gatherLasts_68 (by decide) ?_
      exact ih _ _ _ _ hf _ _ _ hP hD hS (lv_sub hl [1, 2, 3, 0] rfl)
set_option maxHeartbeats 4000000 in
set_option maxRecDepth 100000 in
theorem w_X6_gatherLasts_35 {p : Program} {l : Launch} {e : Env} {s : State} {m : MethodId} {args : Array Value} {below : List Frame} {meth : Method} {c : Code} {dC : Nat → ClassId} {dI : Nat → Nat → Nat} {A : Nat → Prop} {h : Nat} {ad : Nat → Nat} {cI : ClassId} {res : ql_St} (C0 : ql_C p s m args meth c cX6_gatherLasts 4 none wsX6_gatherLasts RX6 (dC, dI) [(cI, .int)] A) (N : Nat) (k25 : ql_St → Int32 → Option (ql_St)) (hk25 : ∀ (z : ql_St) (x1 : Int32), k25 z x1 = some res → ∀ (H : Heap) (locs : List Loc) (ls : Array Slot), va_P (dC, dI) vwCl ((ql_pw h ad cI) z) H → va_D A ((ql_pw h ad cI) z) → va_S A s.heap H locs → lv_has ls 4 [(0, .ref h), (1, .int x1)] → W p l e rm_X6_gatherLasts s m args below meth c H locs 0 0 (ql_Qv below (dC, dI) (ql_pw h ad cI) A args s res) (F0 m 25 ls [])) : ∀ (n : Nat), ∀ (z : ql_St) (x1 : Int32) (x2 : Int32), f_X6_gatherLasts_35 N k25 n z x1 x2 = some res → ∀ (H : Heap) (locs : List Loc) (ls : Array Slot), va_P (dC, dI) vwCl ((ql_pw h ad cI) z) H → va_D A ((ql_pw h ad cI) z) → va_S A s.heap H locs → lv_has ls 4 [(0, .ref h), (1, .int x1), (2, .int x2)] → W p l e rm_X6_gatherLasts s m args below meth c H locs 0 0 (ql_Qv below (dC, dI) (ql_pw h ad cI) A args s res) (F0 m 35 ls []) := by
  have C0q := C0
  obtain ⟨hx, hb, hr, hml, hown, hts, hlocks, hK, hA⟩ := C0q
  have fl44 := hts (Cond.fieldLink RX6 44 "TestedLoops$Plan" "places" "I") (by decide +kernel)
  intro n
  induction n with
  | zero =>
    intro z x1 x2 hf
    rw [f_X6_gatherLasts_35] at hf
    cases hf
  | succ n ih =>
    intro z x1 x2 hf H locs ls hP hD hS hl
    rw [f_X6_gatherLasts_35] at hf
    refine lv_iload_n hx hb dX6_gatherLasts_35 rfl (lv_at hl 2 rfl) ?_
    refine lv_aload_n hx hb dX6_gatherLasts_36 rfl (lv_at hl 0 rfl) ?_
    refine va_get (D := (dC, dI)) (ci := 6) (v := .int (z 6 0)) (C := RX6) (T := TX6) (N := 10) hx hb hts iw_X6_gatherLasts_X6 hown hK.1 hP 0 rfl rfl 6 (by decide) fl44 (fun _ h9 => h9) rfl dX6_gatherLasts_37 ?_
    refine lv_icmp_gt (tgt := 77) hx hb dX6_gatherLasts_40 (by decide) (fun c3 => ?_) (fun c3 => ?_)
    · have hf := (if_pos c3).symm.trans hf
      refine lv_iinc (v := (x1 + 1)) (lv' := [(1, .int (x1 + 1)), (0, .ref h), (2, .int x2)]) hx hb dX6_gatherLasts_77 hl (k := 1) rfl rfl (by decide) rfl (fun ls hl => ?_)
      refine lv_goto (tgt := 25) hx hb dX6_gatherLasts_80 (by decide) ?_
      exact hk25 _ _ hf _ _ _ hP hD hS (lv_sub hl [1, 0] rfl)
    · have hf := (if_neg c3).symm.trans hf
      refine lv_iconst (v := 0) hx hb dX6_gatherLasts_43 (by decide) ?_
      refine lv_istore_n (lv' := [(3, .int 0), (0, .ref h), (1, .int x1), (2, .int x2)]) hx hb dX6_gatherLasts_44 rfl hl (by decide) rfl (fun ls hl => ?_)
      exact w_X6_gatherLasts_45 C0 N k25 hk25 (f_X6_gatherLasts_35 N k25 n) ih N _ _ _ _ hf _ _ _ hP hD hS (lv_sub hl [1, 2, 3, 0] rfl)
set_option maxHeartbeats 4000000 in
set_option maxRecDepth 100000 in
theorem w_X6_gatherLasts_25 {p : Program} {l : Launch} {e : Env} {s : State} {m : MethodId} {args : Array Value} {below : List Frame} {meth : Method} {c : Code} {dC : Nat → ClassId} {dI : Nat → Nat → Nat} {A : Nat → Prop} {h : Nat} {ad : Nat → Nat} {cI : ClassId} {res : ql_St} (C0 : ql_C p s m args meth c cX6_gatherLasts 4 none wsX6_gatherLasts RX6 (dC, dI) [(cI, .int)] A) (N : Nat) : ∀ (n : Nat), ∀ (z : ql_St) (x1 : Int32), f_X6_gatherLasts_25 N n z x1 = some res → ∀ (H : Heap) (locs : List Loc) (ls : Array Slot), va_P (dC, dI) vwCl ((ql_pw h ad cI) z) H → va_D A ((ql_pw h ad cI) z) → va_S A s.heap H locs → lv_has ls 4 [(0, .ref h), (1, .int x1)] → W p l e rm_X6_gatherLasts s m args below meth c H locs 0 0 (ql_Qv below (dC, dI) (ql_pw h ad cI) A args s res) (F0 m 25 ls []) := by
  have C0q := C0
  obtain ⟨hx, hb, hr, hml, hown, hts, hlocks, hK, hA⟩ := C0q
  have fl44 := hts (Cond.fieldLink RX6 44 "TestedLoops$Plan" "places" "I") (by decide +kernel)
  intro n
  induction n with
  | zero =>
    intro z x1 hf
    rw [f_X6_gatherLasts_25] at hf
    cases hf
  | succ n ih =>
    intro z x1 hf H locs ls hP hD hS hl
    rw [f_X6_gatherLasts_25] at hf
    refine lv_iload_n hx hb dX6_gatherLasts_25 rfl (lv_at hl 1 rfl) ?_
    refine lv_aload_n hx hb dX6_gatherLasts_26 rfl (lv_at hl 0 rfl) ?_
    refine va_get (D := (dC, dI)) (ci := 6) (v := .int (z 6 0)) (C := RX6) (T := TX6) (N := 10) hx hb hts iw_X6_gatherLasts_X6 hown hK.1 hP 0 rfl rfl 6 (by decide) fl44 (fun _ h9 => h9) rfl dX6_gatherLasts_27 ?_
    refine lv_icmp_gt (tgt := 83) hx hb dX6_gatherLasts_30 (by decide) (fun c4 => ?_) (fun c4 => ?_)
    · have hf := (if_pos c4).symm.trans hf
      exact ql_vret C0 hf hP hD hS dX6_gatherLasts_83
    · have hf := (if_neg c4).symm.trans hf
      refine lv_iconst (v := 0) hx hb dX6_gatherLasts_33 (by decide) ?_
      refine lv_istore_n (lv' := [(2, .int 0), (0, .ref h), (1, .int x1)]) hx hb dX6_gatherLasts_34 rfl hl (by decide) rfl (fun ls hl => ?_)
      exact w_X6_gatherLasts_35 C0 N (f_X6_gatherLasts_25 N n) ih N _ _ _ hf _ _ _ hP hD hS (lv_sub hl [1, 2, 0] rfl)
set_option maxHeartbeats 4000000 in
set_option maxRecDepth 100000 in
theorem w_X6_gatherLasts_2 {p : Program} {l : Launch} {e : Env} {s : State} {m : MethodId} {args : Array Value} {below : List Frame} {meth : Method} {c : Code} {dC : Nat → ClassId} {dI : Nat → Nat → Nat} {A : Nat → Prop} {h : Nat} {ad : Nat → Nat} {cI : ClassId} {res : ql_St} (C0 : ql_C p s m args meth c cX6_gatherLasts 4 none wsX6_gatherLasts RX6 (dC, dI) [(cI, .int)] A) (N : Nat) : ∀ (n : Nat), ∀ (z : ql_St) (x1 : Int32), f_X6_gatherLasts_2 N n z x1 = some res → ∀ (H : Heap) (locs : List Loc) (ls : Array Slot), va_P (dC, dI) vwCl ((ql_pw h ad cI) z) H → va_D A ((ql_pw h ad cI) z) → va_S A s.heap H locs → lv_has ls 4 [(0, .ref h), (1, .int x1)] → W p l e rm_X6_gatherLasts s m args below meth c H locs 0 0 (ql_Qv below (dC, dI) (ql_pw h ad cI) A args s res) (F0 m 2 ls []) := by
  have C0q := C0
  obtain ⟨hx, hb, hr, hml, hown, hts, hlocks, hK, hA⟩ := C0q
  have fl44 := hts (Cond.fieldLink RX6 44 "TestedLoops$Plan" "places" "I") (by decide +kernel)
  have fl30 := hts (Cond.fieldLink RX6 30 "TestedLoops$Plan" "lasts" "[I") (by decide +kernel)
  intro n
  induction n with
  | zero =>
    intro z x1 hf
    rw [f_X6_gatherLasts_2] at hf
    cases hf
  | succ n ih =>
    intro z x1 hf H locs ls hP hD hS hl
    rw [f_X6_gatherLasts_2] at hf
    refine lv_iload_n hx hb dX6_gatherLasts_2 rfl (lv_at hl 1 rfl) ?_
    refine lv_aload_n hx hb dX6_gatherLasts_3 rfl (lv_at hl 0 rfl) ?_
    refine va_get (D := (dC, dI)) (ci := 6) (v := .int (z 6 0)) (C := RX6) (T := TX6) (N := 10) hx hb hts iw_X6_gatherLasts_X6 hown hK.1 hP 0 rfl rfl 6 (by decide) fl44 (fun _ h9 => h9) rfl dX6_gatherLasts_4 ?_
    refine lv_icmp_gt (tgt := 23) hx hb dX6_gatherLasts_7 (by decide) (fun c5 => ?_) (fun c5 => ?_)
    · have hf := (if_pos c5).symm.trans hf
      refine lv_iconst (v := 0) hx hb dX6_gatherLasts_23 (by decide) ?_
      refine lv_istore_n (lv' := [(1, .int 0), (0, .ref h)]) hx hb dX6_gatherLasts_24 rfl hl (by decide) rfl (fun ls hl => ?_)
      exact w_X6_gatherLasts_25 C0 N N _ _ hf _ _ _ hP hD hS (lv_sub hl [1, 0] rfl)
    · have hf := (if_neg c5).symm.trans hf
      refine lv_aload_n hx hb dX6_gatherLasts_10 rfl (lv_at hl 0 rfl) ?_
      refine va_get (D := (dC, dI)) (ci := 6) (v := .ref (ad 8)) (C := RX6) (T := TX6) (N := 10) hx hb hts iw_X6_gatherLasts_X6 hown hK.1 hP 0 rfl rfl 8 (by decide) fl30 (fun _ h9 => h9) rfl dX6_gatherLasts_11 ?_
      refine lv_iload_n hx hb dX6_gatherLasts_14 rfl (lv_at hl 1 rfl) ?_
      refine lv_iconst (v := 0) hx hb dX6_gatherLasts_15 (by decide) ?_
      have g0 := ql_in (ql_gt hf)
      have hf := ql_gx hf
      refine va_iast (f := (z 8)) hx hb hK.1 hP hD hS 7 0 rfl rfl g0 dX6_gatherLasts_16 (fun H locs hP hD hS => ?_)
      refine lv_iinc (v := (x1 + 1)) (lv' := [(1, .int (x1 + 1)), (0, .ref h)]) hx hb dX6_gatherLasts_17 hl (k := 1) rfl rfl (by decide) rfl (fun ls hl => ?_)
      refine lv_goto (tgt := 2) hx hb dX6_gatherLasts_20 (by decide) ?_
      exact ih _ _ hf _ _ _ hP hD hS (lv_sub hl [1, 0] rfl)
set_option maxHeartbeats 4000000 in
set_option maxRecDepth 100000 in
theorem w_X6_gatherLasts_0 {p : Program} {l : Launch} {e : Env} {s : State} {m : MethodId} {args : Array Value} {below : List Frame} {meth : Method} {c : Code} {dC : Nat → ClassId} {dI : Nat → Nat → Nat} {A : Nat → Prop} {h : Nat} {ad : Nat → Nat} {cI : ClassId} {res : ql_St} (C0 : ql_C p s m args meth c cX6_gatherLasts 4 none wsX6_gatherLasts RX6 (dC, dI) [(cI, .int)] A) (N : Nat) : ∀ (z : ql_St), f_X6_gatherLasts_0 N z = some res → ∀ (H : Heap) (locs : List Loc) (ls : Array Slot), va_P (dC, dI) vwCl ((ql_pw h ad cI) z) H → va_D A ((ql_pw h ad cI) z) → va_S A s.heap H locs → lv_has ls 4 [(0, .ref h)] → W p l e rm_X6_gatherLasts s m args below meth c H locs 0 0 (ql_Qv below (dC, dI) (ql_pw h ad cI) A args s res) (F0 m 0 ls []) := by
  have C0q := C0
  obtain ⟨hx, hb, hr, hml, hown, hts, hlocks, hK, hA⟩ := C0q
  intro z hf H locs ls hP hD hS hl
  unfold f_X6_gatherLasts_0 at hf
  refine lv_iconst (v := 0) hx hb dX6_gatherLasts_0 (by decide) ?_
  refine lv_istore_n (lv' := [(1, .int 0), (0, .ref h)]) hx hb dX6_gatherLasts_1 rfl hl (by decide) rfl (fun ls hl => ?_)
  exact w_X6_gatherLasts_2 C0 N N _ _ hf _ _ _ hP hD hS (lv_sub hl [1, 0] rfl)
set_option maxRecDepth 100000 in
theorem c_X6_gatherLasts (l : Launch) (dC : Nat → ClassId) (dI : Nat → Nat → Nat) (h : Nat) (ad : Nat → Nat) (cI : ClassId) (N : Nat) (z : ql_St) (res : ql_St) (hf : f_X6_gatherLasts N z = some res) : ql_Mv l yX6_gatherLasts wsX6_gatherLasts rm_X6_gatherLasts (dC, dI) [(cI, .int)] (ql_pw h ad cI) [.ref h] z res :=
  ql_start_v (by decide) rfl (Nat.le_of_ble_eq_true rfl) (fun p e s m below meth c A ls C0 hl hP hD hS => w_X6_gatherLasts_0 C0 N z hf s.heap [] ls hP hD hS (lv_sub (show lv_has ls 4 [(0, .ref h)] from hl) [0] rfl))
/-! ===== TestedLoops$Plan.reachFrom(I)V ===== -/
abbrev rm_X6_reachFrom : Room := { frames := 2, cells := 0, slots := 0, locals := 44 }
theorem iw_X6_reachFrom_X6 : ∀ w ∈ wsX60, w ∈ wsX6_reachFrom := fun w h => List.mem_cons_of_mem _ (List.mem_append_right _ h)
theorem qv_X6_reachFrom : yX6_reachFrom.cls = RX6 ∧ yX6_reachFrom.cls ≠ "java/lang/invoke/MethodHandle" ∧ yX6_reachFrom.cls ≠ "java/lang/invoke/VarHandle" ∧ (parseMethodDescriptor yX6_reachFrom.desc).map (fun d => d.parameters.length) = some 1 := by decide +kernel
def f_X6_reachFrom_34 (N : Nat) (k2 : ql_St → Int32 → Int32 → Option (ql_St)) (z : ql_St) (x1 : Int32) (x2 : Int32) : Option (ql_St) := k2 z x1 (x2 + 1)
def f_X6_reachFrom_2 (N : Nat) : Nat → ql_St → Int32 → Int32 → Option (ql_St)
  | 0, _, _, _ => none
  | n + 1, z, x1, x2 => if 4 ≤ x2 then some z else (f_X6_goes N z x1 x2).bind fun u2 => (f_X6_isPlace N z u2).bind fun u3 => if u3 = 0 then f_X6_reachFrom_34 N (f_X6_reachFrom_2 N n) z x1 x2 else f_X6_reachFrom_34 N (f_X6_reachFrom_2 N n) (ql_up z 9 (fun _ => ((z 9 0) ||| ((1 : Int32) <<< (u2 &&& 31))))) x1 x2
def f_X6_reachFrom_0 (N : Nat) (z : ql_St) (x1 : Int32) : Option (ql_St) := f_X6_reachFrom_2 N N z x1 0
def f_X6_reachFrom (N : Nat) (z : ql_St) (x1 : Int32) : Option (ql_St) := f_X6_reachFrom_0 N z x1
set_option maxHeartbeats 4000000 in
set_option maxRecDepth 100000 in
theorem w_X6_reachFrom_34 {p : Program} {l : Launch} {e : Env} {s : State} {m : MethodId} {args : Array Value} {below : List Frame} {meth : Method} {c : Code} {dC : Nat → ClassId} {dI : Nat → Nat → Nat} {A : Nat → Prop} {h : Nat} {ad : Nat → Nat} {cI : ClassId} {res : ql_St} (C0 : ql_C p s m args meth c cX6_reachFrom 4 none wsX6_reachFrom RX6 (dC, dI) [(cI, .int)] A) (N : Nat) (k2 : ql_St → Int32 → Int32 → Option (ql_St)) (hk2 : ∀ (z : ql_St) (x1 : Int32) (x2 : Int32), k2 z x1 x2 = some res → ∀ (H : Heap) (locs : List Loc) (ls : Array Slot), va_P (dC, dI) vwCl ((ql_pw h ad cI) z) H → va_D A ((ql_pw h ad cI) z) → va_S A s.heap H locs → lv_has ls 4 [(0, .ref h), (1, .int x1), (2, .int x2)] → W p l e rm_X6_reachFrom s m args below meth c H locs 0 0 (ql_Qv below (dC, dI) (ql_pw h ad cI) A args s res) (F0 m 2 ls [])) : ∀ (z : ql_St) (x1 : Int32) (x2 : Int32), f_X6_reachFrom_34 N k2 z x1 x2 = some res → ∀ (H : Heap) (locs : List Loc) (ls : Array Slot), va_P (dC, dI) vwCl ((ql_pw h ad cI) z) H → va_D A ((ql_pw h ad cI) z) → va_S A s.heap H locs → lv_has ls 4 [(0, .ref h), (1, .int x1), (2, .int x2)] → W p l e rm_X6_reachFrom s m args below meth c H locs 0 0 (ql_Qv below (dC, dI) (ql_pw h ad cI) A args s res) (F0 m 34 ls []) := by
  have C0q := C0
  obtain ⟨hx, hb, hr, hml, hown, hts, hlocks, hK, hA⟩ := C0q
  intro z x1 x2 hf H locs ls hP hD hS hl
  unfold f_X6_reachFrom_34 at hf
  refine lv_iinc (v := (x2 + 1)) (lv' := [(2, .int (x2 + 1)), (0, .ref h), (1, .int x1)]) hx hb dX6_reachFrom_34 hl (k := 2) rfl rfl (by decide) rfl (fun ls hl => ?_)
  refine lv_goto (tgt := 2) hx hb dX6_reachFrom_37 (by decide) ?_
  exact hk2 _ _ _ hf _ _ _ hP hD hS (lv_sub hl [1, 2, 0] rfl)
set_option maxHeartbeats 4000000 in
set_option maxRecDepth 100000 in
theorem w_X6_reachFrom_2 {p : Program} {l : Launch} {e : Env} {s : State} {m : MethodId} {args : Array Value} {below : List Frame} {meth : Method} {c : Code} {dC : Nat → ClassId} {dI : Nat → Nat → Nat} {A : Nat → Prop} {h : Nat} {ad : Nat → Nat} {cI : ClassId} {res : ql_St} (C0 : ql_C p s m args meth c cX6_reachFrom 4 none wsX6_reachFrom RX6 (dC, dI) [(cI, .int)] A) (N : Nat) : ∀ (n : Nat), ∀ (z : ql_St) (x1 : Int32) (x2 : Int32), f_X6_reachFrom_2 N n z x1 x2 = some res → ∀ (H : Heap) (locs : List Loc) (ls : Array Slot), va_P (dC, dI) vwCl ((ql_pw h ad cI) z) H → va_D A ((ql_pw h ad cI) z) → va_S A s.heap H locs → lv_has ls 4 [(0, .ref h), (1, .int x1), (2, .int x2)] → W p l e rm_X6_reachFrom s m args below meth c H locs 0 0 (ql_Qv below (dC, dI) (ql_pw h ad cI) A args s res) (F0 m 2 ls []) := by
  have C0q := C0
  obtain ⟨hx, hb, hr, hml, hown, hts, hlocks, hK, hA⟩ := C0q
  have fl78 := hts (Cond.fieldLink RX6 78 "TestedLoops$Plan" "reached" "I") (by decide +kernel)
  intro n
  induction n with
  | zero =>
    intro z x1 x2 hf
    rw [f_X6_reachFrom_2] at hf
    cases hf
  | succ n ih =>
    intro z x1 x2 hf H locs ls hP hD hS hl
    rw [f_X6_reachFrom_2] at hf
    refine lv_iload_n hx hb dX6_reachFrom_2 rfl (lv_at hl 2 rfl) ?_
    refine lv_iconst (v := 4) hx hb dX6_reachFrom_3 (by decide) ?_
    refine lv_icmp_ge (tgt := 40) hx hb dX6_reachFrom_4 (by decide) (fun c1 => ?_) (fun c1 => ?_)
    · have hf := (if_pos c1).symm.trans hf
      exact ql_vret C0 hf hP hD hS dX6_reachFrom_40
    · have hf := (if_neg c1).symm.trans hf
      refine lv_aload_n hx hb dX6_reachFrom_7 rfl (lv_at hl 0 rfl) ?_
      refine lv_iload_n hx hb dX6_reachFrom_8 rfl (lv_at hl 1 rfl) ?_
      refine lv_iload_n hx hb dX6_reachFrom_9 rfl (lv_at hl 2 rfl) ?_
      obtain ⟨u2, hu2, hf⟩ := ql_bd hf
      refine ql_callRVi (As := [.int x1, .int x2]) (rest := []) C0 (c_X6_goes l dC dI h ad cI N z x1 x2 u2 hu2) (cwV 2 hts gX6_reachFrom_X6_goes rfl rfl rfl qv_X6_goes ⟨Nat.le_of_ble_eq_true rfl, Nat.le_of_ble_eq_true rfl⟩) (va_recv hK.1 hP (ci := 6) (q0 := 0) rfl rfl) hK hP hS hl.1 rfl rfl (Nat.le_of_ble_eq_true rfl) dX6_reachFrom_10 (fun H1 locs hk hS => ?_)
      have hP := ql_keep hP hk
      refine lv_istore_n (lv' := [(3, .int u2), (0, .ref h), (1, .int x1), (2, .int x2)]) hx hb dX6_reachFrom_13 rfl hl (by decide) rfl (fun ls hl => ?_)
      refine lv_aload_n hx hb dX6_reachFrom_14 rfl (lv_at hl 1 rfl) ?_
      refine lv_iload_n hx hb dX6_reachFrom_15 rfl (lv_at hl 0 rfl) ?_
      obtain ⟨u3, hu3, hf⟩ := ql_bd hf
      refine ql_callRVi (As := [.int u2]) (rest := []) C0 (c_X6_isPlace l dC dI h ad cI N z u2 u3 hu3) (cwV 1 hts gX6_reachFrom_X6_isPlace rfl rfl rfl qv_X6_isPlace ⟨Nat.le_of_ble_eq_true rfl, Nat.le_of_ble_eq_true rfl⟩) (va_recv hK.1 hP (ci := 6) (q0 := 0) rfl rfl) hK hP hS hl.1 rfl rfl (Nat.le_of_ble_eq_true rfl) dX6_reachFrom_16 (fun H1 locs hk hS => ?_)
      have hP := ql_keep hP hk
      refine lv_if_eq (tgt := 34) hx hb dX6_reachFrom_19 (by decide) (fun c4 => ?_) (fun c4 => ?_)
      · have hf := (if_pos c4).symm.trans hf
        exact w_X6_reachFrom_34 C0 N (f_X6_reachFrom_2 N n) ih _ _ _ hf _ _ _ hP hD hS (lv_sub hl [1, 2, 3] rfl)
      · have hf := (if_neg c4).symm.trans hf
        refine lv_aload_n hx hb dX6_reachFrom_22 rfl (lv_at hl 1 rfl) ?_
        refine lv_dup hx hb dX6_reachFrom_23 rfl ?_
        refine va_get (D := (dC, dI)) (ci := 6) (v := .int (z 9 0)) (C := RX6) (T := TX6) (N := 10) hx hb hts iw_X6_reachFrom_X6 hown hK.1 hP 0 rfl rfl 9 (by decide) fl78 (fun _ h9 => h9) rfl dX6_reachFrom_24 ?_
        refine lv_iconst (v := 1) hx hb dX6_reachFrom_27 (by decide) ?_
        refine lv_iload_n hx hb dX6_reachFrom_28 rfl (lv_at hl 0 rfl) ?_
        refine lv_ishl hx hb dX6_reachFrom_29 ?_
        refine lv_ior hx hb dX6_reachFrom_30 ?_
        refine va_put (D := (dC, dI)) (ci := 6) (v := .int ((z 9 0) ||| ((1 : Int32) <<< (u2 &&& 31)))) (ty := .int) (C := RX6) (T := TX6) (N := 10) hx hb hts iw_X6_reachFrom_X6 tyX6 tyX6_ok nmX6 hown hK.1 hP hD hS 0 rfl rfl 9 (by decide) fl78 (fun _ h9 => h9) rfl (by decide +kernel) rfl rfl (Nat.le_of_ble_eq_true rfl) dX6_reachFrom_31 (fun H locs hP hD hS => ?_)
        exact w_X6_reachFrom_34 C0 N (f_X6_reachFrom_2 N n) ih _ _ _ hf _ _ _ hP hD hS (lv_sub hl [1, 2, 3] rfl)
set_option maxHeartbeats 4000000 in
set_option maxRecDepth 100000 in
theorem w_X6_reachFrom_0 {p : Program} {l : Launch} {e : Env} {s : State} {m : MethodId} {args : Array Value} {below : List Frame} {meth : Method} {c : Code} {dC : Nat → ClassId} {dI : Nat → Nat → Nat} {A : Nat → Prop} {h : Nat} {ad : Nat → Nat} {cI : ClassId} {res : ql_St} (C0 : ql_C p s m args meth c cX6_reachFrom 4 none wsX6_reachFrom RX6 (dC, dI) [(cI, .int)] A) (N : Nat) : ∀ (z : ql_St) (x1 : Int32), f_X6_reachFrom_0 N z x1 = some res → ∀ (H : Heap) (locs : List Loc) (ls : Array Slot), va_P (dC, dI) vwCl ((ql_pw h ad cI) z) H → va_D A ((ql_pw h ad cI) z) → va_S A s.heap H locs → lv_has ls 4 [(0, .ref h), (1, .int x1)] → W p l e rm_X6_reachFrom s m args below meth c H locs 0 0 (ql_Qv below (dC, dI) (ql_pw h ad cI) A args s res) (F0 m 0 ls []) := by
  have C0q := C0
  obtain ⟨hx, hb, hr, hml, hown, hts, hlocks, hK, hA⟩ := C0q
  intro z x1 hf H locs ls hP hD hS hl
  unfold f_X6_reachFrom_0 at hf
  refine lv_iconst (v := 0) hx hb dX6_reachFrom_0 (by decide) ?_
  refine lv_istore_n (lv' := [(2, .int 0), (0, .ref h), (1, .int x1)]) hx hb dX6_reachFrom_1 rfl hl (by decide) rfl (fun ls hl => ?_)
  exact w_X6_reachFrom_2 C0 N N _ _ _ hf _ _ _ hP hD hS (lv_sub hl [1, 2, 0] rfl)
set_option maxRecDepth 100000 in
theorem c_X6_reachFrom (l : Launch) (dC : Nat → ClassId) (dI : Nat → Nat → Nat) (h : Nat) (ad : Nat → Nat) (cI : ClassId) (N : Nat) (z : ql_St) (x1 : Int32) (res : ql_St) (hf : f_X6_reachFrom N z x1 = some res) : ql_Mv l yX6_reachFrom wsX6_reachFrom rm_X6_reachFrom (dC, dI) [(cI, .int)] (ql_pw h ad cI) [.ref h, .int x1] z res :=
  ql_start_v (by decide) rfl (Nat.le_of_ble_eq_true rfl) (fun p e s m below meth c A ls C0 hl hP hD hS => w_X6_reachFrom_0 C0 N z x1 hf s.heap [] ls hP hD hS (lv_sub (show lv_has ls 4 [(0, .ref h), (1, .int x1)] from hl) [0, 1] rfl))
/-! ===== TestedLoops$Plan.gatherReached()V ===== -/
abbrev rm_X6_gatherReached : Room := { frames := 3, cells := 0, slots := 0, locals := 67 }
theorem iw_X6_gatherReached_X6 : ∀ w ∈ wsX60, w ∈ wsX6_gatherReached := fun w h => List.mem_cons_of_mem _ (List.mem_append_right _ h)
theorem qv_X6_gatherReached : yX6_gatherReached.cls = RX6 ∧ yX6_gatherReached.cls ≠ "java/lang/invoke/MethodHandle" ∧ yX6_gatherReached.cls ≠ "java/lang/invoke/VarHandle" ∧ (parseMethodDescriptor yX6_gatherReached.desc).map (fun d => d.parameters.length) = some 0 := by decide +kernel
def f_X6_gatherReached_41 (N : Nat) (k7 : ql_St → Int32 → Option (ql_St)) (k17 : ql_St → Int32 → Int32 → Option (ql_St)) (z : ql_St) (x1 : Int32) (x2 : Int32) : Option (ql_St) := k17 z x1 (x2 + 1)
def f_X6_gatherReached_17 (N : Nat) (k7 : ql_St → Int32 → Option (ql_St)) : Nat → ql_St → Int32 → Int32 → Option (ql_St)
  | 0, _, _, _ => none
  | n + 1, z, x1, x2 => if (z 6 0) < x2 then k7 z (x1 + 1) else (f_X10_holds N (z 9 0) x2).bind fun u2 => if u2 = 0 then f_X6_gatherReached_41 N k7 (f_X6_gatherReached_17 N k7 n) z x1 x2 else (f_X6_reachFrom N z x2).bind fun u4 => f_X6_gatherReached_41 N k7 (f_X6_gatherReached_17 N k7 n) u4 x1 x2
def f_X6_gatherReached_7 (N : Nat) : Nat → ql_St → Int32 → Option (ql_St)
  | 0, _, _ => none
  | n + 1, z, x1 => if (z 6 0) ≤ x1 then some z else f_X6_gatherReached_17 N (f_X6_gatherReached_7 N n) N z x1 0
def f_X6_gatherReached_0 (N : Nat) (z : ql_St) : Option (ql_St) := f_X6_gatherReached_7 N N (ql_up z 9 (fun _ => 1)) 0
def f_X6_gatherReached (N : Nat) (z : ql_St) : Option (ql_St) := f_X6_gatherReached_0 N z
set_option maxHeartbeats 4000000 in
set_option maxRecDepth 100000 in
theorem w_X6_gatherReached_41 {p : Program} {l : Launch} {e : Env} {s : State} {m : MethodId} {args : Array Value} {below : List Frame} {meth : Method} {c : Code} {dC : Nat → ClassId} {dI : Nat → Nat → Nat} {A : Nat → Prop} {h : Nat} {ad : Nat → Nat} {cI : ClassId} {res : ql_St} (C0 : ql_C p s m args meth c cX6_gatherReached 3 none wsX6_gatherReached RX6 (dC, dI) [(cI, .int)] A) (N : Nat) (k7 : ql_St → Int32 → Option (ql_St)) (hk7 : ∀ (z : ql_St) (x1 : Int32), k7 z x1 = some res → ∀ (H : Heap) (locs : List Loc) (ls : Array Slot), va_P (dC, dI) vwCl ((ql_pw h ad cI) z) H → va_D A ((ql_pw h ad cI) z) → va_S A s.heap H locs → lv_has ls 3 [(0, .ref h), (1, .int x1)] → W p l e rm_X6_gatherReached s m args below meth c H locs 0 0 (ql_Qv below (dC, dI) (ql_pw h ad cI) A args s res) (F0 m 7 ls [])) (k17 : ql_St → Int32 → Int32 → Option (ql_St)) (hk17 : ∀ (z : ql_St) (x1 : Int32) (x2 : Int32), k17 z x1 x2 = some res → ∀ (H : Heap) (locs : List Loc) (ls : Array Slot), va_P (dC, dI) vwCl ((ql_pw h ad cI) z) H → va_D A ((ql_pw h ad cI) z) → va_S A s.heap H locs → lv_has ls 3 [(0, .ref h), (1, .int x1), (2, .int x2)] → W p l e rm_X6_gatherReached s m args below meth c H locs 0 0 (ql_Qv below (dC, dI) (ql_pw h ad cI) A args s res) (F0 m 17 ls [])) : ∀ (z : ql_St) (x1 : Int32) (x2 : Int32), f_X6_gatherReached_41 N k7 k17 z x1 x2 = some res → ∀ (H : Heap) (locs : List Loc) (ls : Array Slot), va_P (dC, dI) vwCl ((ql_pw h ad cI) z) H → va_D A ((ql_pw h ad cI) z) → va_S A s.heap H locs → lv_has ls 3 [(0, .ref h), (1, .int x1), (2, .int x2)] → W p l e rm_X6_gatherReached s m args below meth c H locs 0 0 (ql_Qv below (dC, dI) (ql_pw h ad cI) A args s res) (F0 m 41 ls []) := by
  have C0q := C0
  obtain ⟨hx, hb, hr, hml, hown, hts, hlocks, hK, hA⟩ := C0q
  intro z x1 x2 hf H locs ls hP hD hS hl
  unfold f_X6_gatherReached_41 at hf
  refine lv_iinc (v := (x2 + 1)) (lv' := [(2, .int (x2 + 1)), (0, .ref h), (1, .int x1)]) hx hb dX6_gatherReached_41 hl (k := 2) rfl rfl (by decide) rfl (fun ls hl => ?_)
  refine lv_goto (tgt := 17) hx hb dX6_gatherReached_44 (by decide) ?_
  exact hk17 _ _ _ hf _ _ _ hP hD hS (lv_sub hl [1, 2, 0] rfl)
set_option maxHeartbeats 4000000 in
set_option maxRecDepth 100000 in
theorem w_X6_gatherReached_17 {p : Program} {l : Launch} {e : Env} {s : State} {m : MethodId} {args : Array Value} {below : List Frame} {meth : Method} {c : Code} {dC : Nat → ClassId} {dI : Nat → Nat → Nat} {A : Nat → Prop} {h : Nat} {ad : Nat → Nat} {cI : ClassId} {res : ql_St} (C0 : ql_C p s m args meth c cX6_gatherReached 3 none wsX6_gatherReached RX6 (dC, dI) [(cI, .int)] A) (N : Nat) (k7 : ql_St → Int32 → Option (ql_St)) (hk7 : ∀ (z : ql_St) (x1 : Int32), k7 z x1 = some res → ∀ (H : Heap) (locs : List Loc) (ls : Array Slot), va_P (dC, dI) vwCl ((ql_pw h ad cI) z) H → va_D A ((ql_pw h ad cI) z) → va_S A s.heap H locs → lv_has ls 3 [(0, .ref h), (1, .int x1)] → W p l e rm_X6_gatherReached s m args below meth c H locs 0 0 (ql_Qv below (dC, dI) (ql_pw h ad cI) A args s res) (F0 m 7 ls [])) : ∀ (n : Nat), ∀ (z : ql_St) (x1 : Int32) (x2 : Int32), f_X6_gatherReached_17 N k7 n z x1 x2 = some res → ∀ (H : Heap) (locs : List Loc) (ls : Array Slot), va_P (dC, dI) vwCl ((ql_pw h ad cI) z) H → va_D A ((ql_pw h ad cI) z) → va_S A s.heap H locs → lv_has ls 3 [(0, .ref h), (1, .int x1), (2, .int x2)] → W p l e rm_X6_gatherReached s m args below meth c H locs 0 0 (ql_Qv below (dC, dI) (ql_pw h ad cI) A args s res) (F0 m 17 ls []) := by
  have C0q := C0
  obtain ⟨hx, hb, hr, hml, hown, hts, hlocks, hK, hA⟩ := C0q
  have fl44 := hts (Cond.fieldLink RX6 44 "TestedLoops$Plan" "places" "I") (by decide +kernel)
  have fl78 := hts (Cond.fieldLink RX6 78 "TestedLoops$Plan" "reached" "I") (by decide +kernel)
  intro n
  induction n with
  | zero =>
    intro z x1 x2 hf
    rw [f_X6_gatherReached_17] at hf
    cases hf
  | succ n ih =>
    intro z x1 x2 hf H locs ls hP hD hS hl
    rw [f_X6_gatherReached_17] at hf
    refine lv_iload_n hx hb dX6_gatherReached_17 rfl (lv_at hl 2 rfl) ?_
    refine lv_aload_n hx hb dX6_gatherReached_18 rfl (lv_at hl 0 rfl) ?_
    refine va_get (D := (dC, dI)) (ci := 6) (v := .int (z 6 0)) (C := RX6) (T := TX6) (N := 10) hx hb hts iw_X6_gatherReached_X6 hown hK.1 hP 0 rfl rfl 6 (by decide) fl44 (fun _ h9 => h9) rfl dX6_gatherReached_19 ?_
    refine lv_icmp_gt (tgt := 47) hx hb dX6_gatherReached_22 (by decide) (fun c1 => ?_) (fun c1 => ?_)
    · have hf := (if_pos c1).symm.trans hf
      refine lv_iinc (v := (x1 + 1)) (lv' := [(1, .int (x1 + 1)), (0, .ref h), (2, .int x2)]) hx hb dX6_gatherReached_47 hl (k := 1) rfl rfl (by decide) rfl (fun ls hl => ?_)
      refine lv_goto (tgt := 7) hx hb dX6_gatherReached_50 (by decide) ?_
      exact hk7 _ _ hf _ _ _ hP hD hS (lv_sub hl [1, 0] rfl)
    · have hf := (if_neg c1).symm.trans hf
      refine lv_aload_n hx hb dX6_gatherReached_25 rfl (lv_at hl 0 rfl) ?_
      refine va_get (D := (dC, dI)) (ci := 6) (v := .int (z 9 0)) (C := RX6) (T := TX6) (N := 10) hx hb hts iw_X6_gatherReached_X6 hown hK.1 hP 0 rfl rfl 9 (by decide) fl78 (fun _ h9 => h9) rfl dX6_gatherReached_26 ?_
      refine lv_iload_n hx hb dX6_gatherReached_29 rfl (lv_at hl 2 rfl) ?_
      obtain ⟨u2, hu2, hf⟩ := ql_bd hf
      refine ql_callRNi (As := [.int (z 9 0), .int x2]) (rest := []) C0 (c_X10_holds l dC dI N (z 9 0) x2 u2 hu2) ⟨va_cnB 2 hts gX6_gatherReached_X10_holds_n71 rfl rfl rfl hK.2 (hts (.initialized RX10) (by decide +kernel)) qd_X10_holds ⟨Nat.le_of_ble_eq_true rfl, Nat.le_of_ble_eq_true rfl⟩, hts (.static yX10_holds) (by decide +kernel), trivial⟩ (hK.sub [] rfl) ql_nil hS hl.1 rfl rfl (Nat.le_of_ble_eq_true rfl) dX6_gatherReached_30 (fun H1 locs hk hS => ?_)
      have hP := ql_keep hP hk
      refine lv_if_eq (tgt := 41) hx hb dX6_gatherReached_33 (by decide) (fun c3 => ?_) (fun c3 => ?_)
      · have hf := (if_pos c3).symm.trans hf
        exact w_X6_gatherReached_41 C0 N k7 hk7 (f_X6_gatherReached_17 N k7 n) ih _ _ _ hf _ _ _ hP hD hS (lv_sub hl [0, 1, 2] rfl)
      · have hf := (if_neg c3).symm.trans hf
        refine lv_aload_n hx hb dX6_gatherReached_36 rfl (lv_at hl 0 rfl) ?_
        refine lv_iload_n hx hb dX6_gatherReached_37 rfl (lv_at hl 2 rfl) ?_
        obtain ⟨u4, hu4, hf⟩ := ql_bd hf
        refine ql_callVv (As := [.int x2]) (rest := []) C0 (c_X6_reachFrom l dC dI h ad cI N z x2 u4 hu4) (cwV 1 hts gX6_gatherReached_X6_reachFrom rfl rfl rfl qv_X6_reachFrom ⟨Nat.le_of_ble_eq_true rfl, Nat.le_of_ble_eq_true rfl⟩) (va_recv hK.1 hP (ci := 6) (q0 := 0) rfl rfl) hP hD hS hl.1 rfl rfl (Nat.le_of_ble_eq_true rfl) dX6_gatherReached_38 (fun H locs hP hD hS => ?_)
        exact w_X6_gatherReached_41 C0 N k7 hk7 (f_X6_gatherReached_17 N k7 n) ih _ _ _ hf _ _ _ hP hD hS (lv_sub hl [0, 1, 2] rfl)
set_option maxHeartbeats 4000000 in
set_option maxRecDepth 100000 in
theorem w_X6_gatherReached_7 {p : Program} {l : Launch} {e : Env} {s : State} {m : MethodId} {args : Array Value} {below : List Frame} {meth : Method} {c : Code} {dC : Nat → ClassId} {dI : Nat → Nat → Nat} {A : Nat → Prop} {h : Nat} {ad : Nat → Nat} {cI : ClassId} {res : ql_St} (C0 : ql_C p s m args meth c cX6_gatherReached 3 none wsX6_gatherReached RX6 (dC, dI) [(cI, .int)] A) (N : Nat) : ∀ (n : Nat), ∀ (z : ql_St) (x1 : Int32), f_X6_gatherReached_7 N n z x1 = some res → ∀ (H : Heap) (locs : List Loc) (ls : Array Slot), va_P (dC, dI) vwCl ((ql_pw h ad cI) z) H → va_D A ((ql_pw h ad cI) z) → va_S A s.heap H locs → lv_has ls 3 [(0, .ref h), (1, .int x1)] → W p l e rm_X6_gatherReached s m args below meth c H locs 0 0 (ql_Qv below (dC, dI) (ql_pw h ad cI) A args s res) (F0 m 7 ls []) := by
  have C0q := C0
  obtain ⟨hx, hb, hr, hml, hown, hts, hlocks, hK, hA⟩ := C0q
  have fl44 := hts (Cond.fieldLink RX6 44 "TestedLoops$Plan" "places" "I") (by decide +kernel)
  intro n
  induction n with
  | zero =>
    intro z x1 hf
    rw [f_X6_gatherReached_7] at hf
    cases hf
  | succ n ih =>
    intro z x1 hf H locs ls hP hD hS hl
    rw [f_X6_gatherReached_7] at hf
    refine lv_iload_n hx hb dX6_gatherReached_7 rfl (lv_at hl 1 rfl) ?_
    refine lv_aload_n hx hb dX6_gatherReached_8 rfl (lv_at hl 0 rfl) ?_
    refine va_get (D := (dC, dI)) (ci := 6) (v := .int (z 6 0)) (C := RX6) (T := TX6) (N := 10) hx hb hts iw_X6_gatherReached_X6 hown hK.1 hP 0 rfl rfl 6 (by decide) fl44 (fun _ h9 => h9) rfl dX6_gatherReached_9 ?_
    refine lv_icmp_ge (tgt := 53) hx hb dX6_gatherReached_12 (by decide) (fun c5 => ?_) (fun c5 => ?_)
    · have hf := (if_pos c5).symm.trans hf
      exact ql_vret C0 hf hP hD hS dX6_gatherReached_53
    · have hf := (if_neg c5).symm.trans hf
      refine lv_iconst (v := 0) hx hb dX6_gatherReached_15 (by decide) ?_
      refine lv_istore_n (lv' := [(2, .int 0), (0, .ref h), (1, .int x1)]) hx hb dX6_gatherReached_16 rfl hl (by decide) rfl (fun ls hl => ?_)
      exact w_X6_gatherReached_17 C0 N (f_X6_gatherReached_7 N n) ih N _ _ _ hf _ _ _ hP hD hS (lv_sub hl [1, 2, 0] rfl)
set_option maxHeartbeats 4000000 in
set_option maxRecDepth 100000 in
theorem w_X6_gatherReached_0 {p : Program} {l : Launch} {e : Env} {s : State} {m : MethodId} {args : Array Value} {below : List Frame} {meth : Method} {c : Code} {dC : Nat → ClassId} {dI : Nat → Nat → Nat} {A : Nat → Prop} {h : Nat} {ad : Nat → Nat} {cI : ClassId} {res : ql_St} (C0 : ql_C p s m args meth c cX6_gatherReached 3 none wsX6_gatherReached RX6 (dC, dI) [(cI, .int)] A) (N : Nat) : ∀ (z : ql_St), f_X6_gatherReached_0 N z = some res → ∀ (H : Heap) (locs : List Loc) (ls : Array Slot), va_P (dC, dI) vwCl ((ql_pw h ad cI) z) H → va_D A ((ql_pw h ad cI) z) → va_S A s.heap H locs → lv_has ls 3 [(0, .ref h)] → W p l e rm_X6_gatherReached s m args below meth c H locs 0 0 (ql_Qv below (dC, dI) (ql_pw h ad cI) A args s res) (F0 m 0 ls []) := by
  have C0q := C0
  obtain ⟨hx, hb, hr, hml, hown, hts, hlocks, hK, hA⟩ := C0q
  have fl78 := hts (Cond.fieldLink RX6 78 "TestedLoops$Plan" "reached" "I") (by decide +kernel)
  intro z hf H locs ls hP hD hS hl
  unfold f_X6_gatherReached_0 at hf
  refine lv_aload_n hx hb dX6_gatherReached_0 rfl (lv_at hl 0 rfl) ?_
  refine lv_iconst (v := 1) hx hb dX6_gatherReached_1 (by decide) ?_
  refine va_put (D := (dC, dI)) (ci := 6) (v := .int 1) (ty := .int) (C := RX6) (T := TX6) (N := 10) hx hb hts iw_X6_gatherReached_X6 tyX6 tyX6_ok nmX6 hown hK.1 hP hD hS 0 rfl rfl 9 (by decide) fl78 (fun _ h9 => h9) rfl (by decide +kernel) rfl rfl (Nat.le_of_ble_eq_true rfl) dX6_gatherReached_2 (fun H locs hP hD hS => ?_)
  refine lv_iconst (v := 0) hx hb dX6_gatherReached_5 (by decide) ?_
  refine lv_istore_n (lv' := [(1, .int 0), (0, .ref h)]) hx hb dX6_gatherReached_6 rfl hl (by decide) rfl (fun ls hl => ?_)
  exact w_X6_gatherReached_7 C0 N N _ _ hf _ _ _ hP hD hS (lv_sub hl [1, 0] rfl)
set_option maxRecDepth 100000 in
theorem c_X6_gatherReached (l : Launch) (dC : Nat → ClassId) (dI : Nat → Nat → Nat) (h : Nat) (ad : Nat → Nat) (cI : ClassId) (N : Nat) (z : ql_St) (res : ql_St) (hf : f_X6_gatherReached N z = some res) : ql_Mv l yX6_gatherReached wsX6_gatherReached rm_X6_gatherReached (dC, dI) [(cI, .int)] (ql_pw h ad cI) [.ref h] z res :=
  ql_start_v (by decide) rfl (Nat.le_of_ble_eq_true rfl) (fun p e s m below meth c A ls C0 hl hP hD hS => w_X6_gatherReached_0 C0 N z hf s.heap [] ls hP hD hS (lv_sub (show lv_has ls 3 [(0, .ref h)] from hl) [0] rfl))
/-! ===== TestedLoops$Plan.settle()V ===== -/
abbrev rm_X6_settle : Room := { frames := 4, cells := 0, slots := 0, locals := 90 }
theorem iw_X6_settle_X6 : ∀ w ∈ wsX60, w ∈ wsX6_settle := fun w h => List.mem_cons_of_mem _ (List.mem_append_right _ h)
theorem qv_X6_settle : yX6_settle.cls = RX6 ∧ yX6_settle.cls ≠ "java/lang/invoke/MethodHandle" ∧ yX6_settle.cls ≠ "java/lang/invoke/VarHandle" ∧ (parseMethodDescriptor yX6_settle.desc).map (fun d => d.parameters.length) = some 0 := by decide +kernel
def f_X6_settle_12 (N : Nat) (k2 : ql_St → Int32 → Option (ql_St)) : Nat → ql_St → Int32 → Int32 → Option (ql_St)
  | 0, _, _, _ => none
  | n + 1, z, x1, x2 => if 4 ≤ x2 then k2 z (x1 + 1) else (f_X6_run N z x1 x2).bind fun u2 => if ql_ib ((x1 * 4) + x2) 68 = true then f_X6_settle_12 N k2 n (ql_up z 7 (upd (z 7) (((x1 * 4) + x2).toNatClampNeg) u2)) x1 (x2 + 1) else none
def f_X6_settle_2 (N : Nat) : Nat → ql_St → Int32 → Option (ql_St)
  | 0, _, _ => none
  | n + 1, z, x1 => if (z 6 0) < x1 then (f_X6_gatherLasts N z).bind fun u4 => (f_X6_gatherReached N u4).bind fun u5 => some u5 else f_X6_settle_12 N (f_X6_settle_2 N n) N z x1 0
def f_X6_settle_0 (N : Nat) (z : ql_St) : Option (ql_St) := f_X6_settle_2 N N z 0
def f_X6_settle (N : Nat) (z : ql_St) : Option (ql_St) := f_X6_settle_0 N z
set_option maxHeartbeats 4000000 in
set_option maxRecDepth 100000 in
theorem w_X6_settle_12 {p : Program} {l : Launch} {e : Env} {s : State} {m : MethodId} {args : Array Value} {below : List Frame} {meth : Method} {c : Code} {dC : Nat → ClassId} {dI : Nat → Nat → Nat} {A : Nat → Prop} {h : Nat} {ad : Nat → Nat} {cI : ClassId} {res : ql_St} (C0 : ql_C p s m args meth c cX6_settle 3 none wsX6_settle RX6 (dC, dI) [(cI, .int)] A) (N : Nat) (k2 : ql_St → Int32 → Option (ql_St)) (hk2 : ∀ (z : ql_St) (x1 : Int32), k2 z x1 = some res → ∀ (H : Heap) (locs : List Loc) (ls : Array Slot), va_P (dC, dI) vwCl ((ql_pw h ad cI) z) H → va_D A ((ql_pw h ad cI) z) → va_S A s.heap H locs → lv_has ls 3 [(0, .ref h), (1, .int x1)] → W p l e rm_X6_settle s m args below meth c H locs 0 0 (ql_Qv below (dC, dI) (ql_pw h ad cI) A args s res) (F0 m 2 ls [])) : ∀ (n : Nat), ∀ (z : ql_St) (x1 : Int32) (x2 : Int32), f_X6_settle_12 N k2 n z x1 x2 = some res → ∀ (H : Heap) (locs : List Loc) (ls : Array Slot), va_P (dC, dI) vwCl ((ql_pw h ad cI) z) H → va_D A ((ql_pw h ad cI) z) → va_S A s.heap H locs → lv_has ls 3 [(0, .ref h), (1, .int x1), (2, .int x2)] → W p l e rm_X6_settle s m args below meth c H locs 0 0 (ql_Qv below (dC, dI) (ql_pw h ad cI) A args s res) (F0 m 12 ls []) := by
  have C0q := C0
  obtain ⟨hx, hb, hr, hml, hown, hts, hlocks, hK, hA⟩ := C0q
  have fl27 := hts (Cond.fieldLink RX6 27 "TestedLoops$Plan" "table" "[I") (by decide +kernel)
  intro n
  induction n with
  | zero =>
    intro z x1 x2 hf
    rw [f_X6_settle_12] at hf
    cases hf
  | succ n ih =>
    intro z x1 x2 hf H locs ls hP hD hS hl
    rw [f_X6_settle_12] at hf
    refine lv_iload_n hx hb dX6_settle_12 rfl (lv_at hl 2 rfl) ?_
    refine lv_iconst (v := 4) hx hb dX6_settle_13 (by decide) ?_
    refine lv_icmp_ge (tgt := 39) hx hb dX6_settle_14 (by decide) (fun c1 => ?_) (fun c1 => ?_)
    · have hf := (if_pos c1).symm.trans hf
      refine lv_iinc (v := (x1 + 1)) (lv' := [(1, .int (x1 + 1)), (0, .ref h), (2, .int x2)]) hx hb dX6_settle_39 hl (k := 1) rfl rfl (by decide) rfl (fun ls hl => ?_)
      refine lv_goto (tgt := 2) hx hb dX6_settle_42 (by decide) ?_
      exact hk2 _ _ hf _ _ _ hP hD hS (lv_sub hl [1, 0] rfl)
    · have hf := (if_neg c1).symm.trans hf
      refine lv_aload_n hx hb dX6_settle_17 rfl (lv_at hl 0 rfl) ?_
      refine va_get (D := (dC, dI)) (ci := 6) (v := .ref (ad 7)) (C := RX6) (T := TX6) (N := 10) hx hb hts iw_X6_settle_X6 hown hK.1 hP 0 rfl rfl 7 (by decide) fl27 (fun _ h9 => h9) rfl dX6_settle_18 ?_
      refine lv_iload_n hx hb dX6_settle_21 rfl (lv_at hl 1 rfl) ?_
      refine lv_iconst (v := 4) hx hb dX6_settle_22 (by decide) ?_
      refine lv_imul hx hb dX6_settle_23 ?_
      refine lv_iload_n hx hb dX6_settle_24 rfl (lv_at hl 2 rfl) ?_
      refine lv_iadd hx hb dX6_settle_25 ?_
      refine lv_aload_n hx hb dX6_settle_26 rfl (lv_at hl 0 rfl) ?_
      refine lv_iload_n hx hb dX6_settle_27 rfl (lv_at hl 1 rfl) ?_
      refine lv_iload_n hx hb dX6_settle_28 rfl (lv_at hl 2 rfl) ?_
      obtain ⟨u2, hu2, hf⟩ := ql_bd hf
      refine ql_callRVi (As := [.int x1, .int x2]) (rest := [.int ((x1 * 4) + x2), .ref (ad 7)]) C0 (c_X6_run l dC dI h ad cI N z x1 x2 u2 hu2) (cwV 2 hts gX6_settle_X6_run rfl rfl rfl qv_X6_run ⟨Nat.le_of_ble_eq_true rfl, Nat.le_of_ble_eq_true rfl⟩) (va_recv hK.1 hP (ci := 6) (q0 := 0) rfl rfl) hK hP hS hl.1 rfl rfl (Nat.le_of_ble_eq_true rfl) dX6_settle_29 (fun H1 locs hk hS => ?_)
      have hP := ql_keep hP hk
      have g0 := ql_in (ql_gt hf)
      have hf := ql_gx hf
      refine va_iast (f := (z 7)) hx hb hK.1 hP hD hS 6 0 rfl rfl g0 dX6_settle_32 (fun H locs hP hD hS => ?_)
      refine lv_iinc (v := (x2 + 1)) (lv' := [(2, .int (x2 + 1)), (0, .ref h), (1, .int x1)]) hx hb dX6_settle_33 hl (k := 2) rfl rfl (by decide) rfl (fun ls hl => ?_)
      refine lv_goto (tgt := 12) hx hb dX6_settle_36 (by decide) ?_
      exact ih _ _ _ hf _ _ _ hP hD hS (lv_sub hl [1, 2, 0] rfl)
set_option maxHeartbeats 4000000 in
set_option maxRecDepth 100000 in
theorem w_X6_settle_2 {p : Program} {l : Launch} {e : Env} {s : State} {m : MethodId} {args : Array Value} {below : List Frame} {meth : Method} {c : Code} {dC : Nat → ClassId} {dI : Nat → Nat → Nat} {A : Nat → Prop} {h : Nat} {ad : Nat → Nat} {cI : ClassId} {res : ql_St} (C0 : ql_C p s m args meth c cX6_settle 3 none wsX6_settle RX6 (dC, dI) [(cI, .int)] A) (N : Nat) : ∀ (n : Nat), ∀ (z : ql_St) (x1 : Int32), f_X6_settle_2 N n z x1 = some res → ∀ (H : Heap) (locs : List Loc) (ls : Array Slot), va_P (dC, dI) vwCl ((ql_pw h ad cI) z) H → va_D A ((ql_pw h ad cI) z) → va_S A s.heap H locs → lv_has ls 3 [(0, .ref h), (1, .int x1)] → W p l e rm_X6_settle s m args below meth c H locs 0 0 (ql_Qv below (dC, dI) (ql_pw h ad cI) A args s res) (F0 m 2 ls []) := by
  have C0q := C0
  obtain ⟨hx, hb, hr, hml, hown, hts, hlocks, hK, hA⟩ := C0q
  have fl44 := hts (Cond.fieldLink RX6 44 "TestedLoops$Plan" "places" "I") (by decide +kernel)
  intro n
  induction n with
  | zero =>
    intro z x1 hf
    rw [f_X6_settle_2] at hf
    cases hf
  | succ n ih =>
    intro z x1 hf H locs ls hP hD hS hl
    rw [f_X6_settle_2] at hf
    refine lv_iload_n hx hb dX6_settle_2 rfl (lv_at hl 1 rfl) ?_
    refine lv_aload_n hx hb dX6_settle_3 rfl (lv_at hl 0 rfl) ?_
    refine va_get (D := (dC, dI)) (ci := 6) (v := .int (z 6 0)) (C := RX6) (T := TX6) (N := 10) hx hb hts iw_X6_settle_X6 hown hK.1 hP 0 rfl rfl 6 (by decide) fl44 (fun _ h9 => h9) rfl dX6_settle_4 ?_
    refine lv_icmp_gt (tgt := 45) hx hb dX6_settle_7 (by decide) (fun c3 => ?_) (fun c3 => ?_)
    · have hf := (if_pos c3).symm.trans hf
      refine lv_aload_n hx hb dX6_settle_45 rfl (lv_at hl 0 rfl) ?_
      obtain ⟨u4, hu4, hf⟩ := ql_bd hf
      refine ql_callVv (As := []) (rest := []) C0 (c_X6_gatherLasts l dC dI h ad cI N z u4 hu4) (cwV 0 hts gX6_settle_X6_gatherLasts rfl rfl rfl qv_X6_gatherLasts ⟨Nat.le_of_ble_eq_true rfl, Nat.le_of_ble_eq_true rfl⟩) (va_recv hK.1 hP (ci := 6) (q0 := 0) rfl rfl) hP hD hS hl.1 rfl rfl (Nat.le_of_ble_eq_true rfl) dX6_settle_46 (fun H locs hP hD hS => ?_)
      refine lv_aload_n hx hb dX6_settle_49 rfl (lv_at hl 0 rfl) ?_
      obtain ⟨u5, hu5, hf⟩ := ql_bd hf
      refine ql_callVv (As := []) (rest := []) C0 (c_X6_gatherReached l dC dI h ad cI N u4 u5 hu5) (cwV 0 hts gX6_settle_X6_gatherReached rfl rfl rfl qv_X6_gatherReached ⟨Nat.le_of_ble_eq_true rfl, Nat.le_of_ble_eq_true rfl⟩) (va_recv hK.1 hP (ci := 6) (q0 := 0) rfl rfl) hP hD hS hl.1 rfl rfl (Nat.le_of_ble_eq_true rfl) dX6_settle_50 (fun H locs hP hD hS => ?_)
      exact ql_vret C0 hf hP hD hS dX6_settle_53
    · have hf := (if_neg c3).symm.trans hf
      refine lv_iconst (v := 0) hx hb dX6_settle_10 (by decide) ?_
      refine lv_istore_n (lv' := [(2, .int 0), (0, .ref h), (1, .int x1)]) hx hb dX6_settle_11 rfl hl (by decide) rfl (fun ls hl => ?_)
      exact w_X6_settle_12 C0 N (f_X6_settle_2 N n) ih N _ _ _ hf _ _ _ hP hD hS (lv_sub hl [1, 2, 0] rfl)
set_option maxHeartbeats 4000000 in
set_option maxRecDepth 100000 in
theorem w_X6_settle_0 {p : Program} {l : Launch} {e : Env} {s : State} {m : MethodId} {args : Array Value} {below : List Frame} {meth : Method} {c : Code} {dC : Nat → ClassId} {dI : Nat → Nat → Nat} {A : Nat → Prop} {h : Nat} {ad : Nat → Nat} {cI : ClassId} {res : ql_St} (C0 : ql_C p s m args meth c cX6_settle 3 none wsX6_settle RX6 (dC, dI) [(cI, .int)] A) (N : Nat) : ∀ (z : ql_St), f_X6_settle_0 N z = some res → ∀ (H : Heap) (locs : List Loc) (ls : Array Slot), va_P (dC, dI) vwCl ((ql_pw h ad cI) z) H → va_D A ((ql_pw h ad cI) z) → va_S A s.heap H locs → lv_has ls 3 [(0, .ref h)] → W p l e rm_X6_settle s m args below meth c H locs 0 0 (ql_Qv below (dC, dI) (ql_pw h ad cI) A args s res) (F0 m 0 ls []) := by
  have C0q := C0
  obtain ⟨hx, hb, hr, hml, hown, hts, hlocks, hK, hA⟩ := C0q
  intro z hf H locs ls hP hD hS hl
  unfold f_X6_settle_0 at hf
  refine lv_iconst (v := 0) hx hb dX6_settle_0 (by decide) ?_
  refine lv_istore_n (lv' := [(1, .int 0), (0, .ref h)]) hx hb dX6_settle_1 rfl hl (by decide) rfl (fun ls hl => ?_)
  exact w_X6_settle_2 C0 N N _ _ hf _ _ _ hP hD hS (lv_sub hl [1, 0] rfl)
set_option maxRecDepth 100000 in
theorem c_X6_settle (l : Launch) (dC : Nat → ClassId) (dI : Nat → Nat → Nat) (h : Nat) (ad : Nat → Nat) (cI : ClassId) (N : Nat) (z : ql_St) (res : ql_St) (hf : f_X6_settle N z = some res) : ql_Mv l yX6_settle wsX6_settle rm_X6_settle (dC, dI) [(cI, .int)] (ql_pw h ad cI) [.ref h] z res :=
  ql_start_v (by decide) rfl (Nat.le_of_ble_eq_true rfl) (fun p e s m below meth c A ls C0 hl hP hD hS => w_X6_settle_0 C0 N z hf s.heap [] ls hP hD hS (lv_sub (show lv_has ls 3 [(0, .ref h)] from hl) [0] rfl))
