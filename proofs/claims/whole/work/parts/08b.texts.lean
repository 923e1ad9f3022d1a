/-! ===== jdk/internal/util/Preconditions.checkIndex(IILjava/util/function/BiFunction;)I ===== -/
abbrev rm_J3_checkIndex_8e157 : Room := { frames := 0, cells := 0, slots := 0, locals := 0 }
theorem qd_J3_checkIndex_8e157 : yJ3_checkIndex_8e157.cls ≠ "java/lang/invoke/MethodHandle" ∧ yJ3_checkIndex_8e157.cls ≠ "java/lang/invoke/VarHandle" ∧ (parseMethodDescriptor yJ3_checkIndex_8e157.desc).map (fun d => d.parameters.length) = some 3 := by decide +kernel
def f_J3_checkIndex_8e157_9 (N : Nat) : Option (Int32) := none
def f_J3_checkIndex_8e157_0 (N : Nat) (x0 : Int32) (x1 : Int32) : Option (Int32) := if x0 < 0 then f_J3_checkIndex_8e157_9 N else if x0 < x1 then some x0 else f_J3_checkIndex_8e157_9 N
def f_J3_checkIndex_8e157 (N : Nat) (x0 : Int32) (x1 : Int32) : Option (Int32) := f_J3_checkIndex_8e157_0 N x0 x1
set_option maxHeartbeats 4000000 in
set_option maxRecDepth 100000 in
theorem w_J3_checkIndex_8e157_9 {p : Program} {l : Launch} {e : Env} {s : State} {m : MethodId} {args : Array Value} {below : List Frame} {meth : Method} {c : Code} {dC : Nat → ClassId} {dI : Nat → Nat → Nat} {A : Nat → Prop} {adK adV : Nat → Nat} {res : Int32} (C0 : ql_C p s m args meth c cJ3_checkIndex_8e157 3 (some .int) wsJ3_checkIndex_8e157 RJ3 (dC, dI) [] A) (N : Nat) (hE : ql_E adK adV A s s.heap) : f_J3_checkIndex_8e157_9 N = some res → ∀ (H : Heap) (locs : List Loc) (ls : Array Slot), va_S A s.heap H locs → lv_has ls 3 [] → W p l e rm_J3_checkIndex_8e157 s m args below meth c H locs 0 0 (ql_Qri below A args s res) (F0 m 9 ls []) := by
  have C0q := C0
  obtain ⟨hx, hb, hr, hml, hown, hts, hlocks, hK, hA⟩ := C0q
  intro hf H locs ls hS hl
  unfold f_J3_checkIndex_8e157_9 at hf
  cases hf
set_option maxHeartbeats 4000000 in
set_option maxRecDepth 100000 in
theorem w_J3_checkIndex_8e157_0 {p : Program} {l : Launch} {e : Env} {s : State} {m : MethodId} {args : Array Value} {below : List Frame} {meth : Method} {c : Code} {dC : Nat → ClassId} {dI : Nat → Nat → Nat} {A : Nat → Prop} {adK adV : Nat → Nat} {res : Int32} (C0 : ql_C p s m args meth c cJ3_checkIndex_8e157 3 (some .int) wsJ3_checkIndex_8e157 RJ3 (dC, dI) [] A) (N : Nat) (hE : ql_E adK adV A s s.heap) : ∀ (x0 : Int32) (x1 : Int32), f_J3_checkIndex_8e157_0 N x0 x1 = some res → ∀ (H : Heap) (locs : List Loc) (ls : Array Slot), va_S A s.heap H locs → lv_has ls 3 [(0, .int x0), (1, .int x1)] → W p l e rm_J3_checkIndex_8e157 s m args below meth c H locs 0 0 (ql_Qri below A args s res) (F0 m 0 ls []) := by
  have C0q := C0
  obtain ⟨hx, hb, hr, hml, hown, hts, hlocks, hK, hA⟩ := C0q
  intro x0 x1 hf H locs ls hS hl
  unfold f_J3_checkIndex_8e157_0 at hf
  refine lv_iload_n hx hb dJ3_checkIndex_8e157_0 rfl (lv_at hl 0 rfl) ?_
  refine lv_if_lt (tgt := 9) hx hb dJ3_checkIndex_8e157_1 (by decide) (fun c1 => ?_) (fun c1 => ?_)
  · have hf := (if_pos c1).symm.trans hf
    exact w_J3_checkIndex_8e157_9 C0 N hE hf _ _ _ hS (lv_sub hl [] rfl)
  · have hf := (if_neg c1).symm.trans hf
    refine lv_iload_n hx hb dJ3_checkIndex_8e157_4 rfl (lv_at hl 0 rfl) ?_
    refine lv_iload_n hx hb dJ3_checkIndex_8e157_5 rfl (lv_at hl 1 rfl) ?_
    refine lv_icmp_lt (tgt := 16) hx hb dJ3_checkIndex_8e157_6 (by decide) (fun c2 => ?_) (fun c2 => ?_)
    · have hf := (if_pos c2).symm.trans hf
      refine lv_iload_n hx hb dJ3_checkIndex_8e157_16 rfl (lv_at hl 0 rfl) ?_
      exact ql_riret C0 hf hS dJ3_checkIndex_8e157_17
    · have hf := (if_neg c2).symm.trans hf
      exact w_J3_checkIndex_8e157_9 C0 N hE hf _ _ _ hS (lv_sub hl [] rfl)
set_option maxRecDepth 100000 in
theorem c_J3_checkIndex_8e157 (l : Launch) (dC : Nat → ClassId) (dI : Nat → Nat → Nat) (adK adV : Nat → Nat) (fm : Option Nat) (N : Nat) (x0 : Int32) (x1 : Int32) (res : Int32) (hf : f_J3_checkIndex_8e157 N x0 x1 = some res) : ql_RiE adK adV l yJ3_checkIndex_8e157 wsJ3_checkIndex_8e157 rm_J3_checkIndex_8e157 (dC, dI) [] ([]) [.int x0, .int x1, va_rf fm] res :=
  by cases fm <;> exact ql_start_riE (by decide) rfl (Nat.le_of_ble_eq_true rfl) (fun p e s m below meth c A ls C0 hl hP hS hE => w_J3_checkIndex_8e157_0 C0 N hE x0 x1 hf s.heap [] ls hS (lv_sub (show lv_has ls 3 [(0, .int x0), (1, .int x1), (2, _)] from hl) [0, 1] rfl))
/-! ===== java/lang/String.checkIndex(II)V ===== -/
abbrev rm_J0_checkIndex_df160 : Room := { frames := 1, cells := 0, slots := 0, locals := 22 }
theorem qd_J0_checkIndex_df160 : yJ0_checkIndex_df160.cls ≠ "java/lang/invoke/MethodHandle" ∧ yJ0_checkIndex_df160.cls ≠ "java/lang/invoke/VarHandle" ∧ (parseMethodDescriptor yJ0_checkIndex_df160.desc).map (fun d => d.parameters.length) = some 2 := by decide +kernel
def f_J0_checkIndex_df160_0 (N : Nat) (x0 : Int32) (x1 : Int32) : Option (Unit) := (f_J3_checkIndex_8e157 N x0 x1).bind fun u1 => some ()
def f_J0_checkIndex_df160 (N : Nat) (x0 : Int32) (x1 : Int32) : Option (Unit) := f_J0_checkIndex_df160_0 N x0 x1
set_option maxHeartbeats 4000000 in
set_option maxRecDepth 100000 in
theorem w_J0_checkIndex_df160_0 {p : Program} {l : Launch} {e : Env} {s : State} {m : MethodId} {args : Array Value} {below : List Frame} {meth : Method} {c : Code} {dC : Nat → ClassId} {dI : Nat → Nat → Nat} {A : Nat → Prop} {adK adV : Nat → Nat} {res : Unit} (C0 : ql_C p s m args meth c cJ0_checkIndex_df160 2 none wsJ0_checkIndex_df160 RJ0 (dC, dI) [] A) (N : Nat) (hE : ql_E adK adV A s s.heap) : ∀ (x0 : Int32) (x1 : Int32), f_J0_checkIndex_df160_0 N x0 x1 = some res → ∀ (H : Heap) (locs : List Loc) (ls : Array Slot), va_S A s.heap H locs → lv_has ls 2 [(0, .int x0), (1, .int x1)] → W p l e rm_J0_checkIndex_df160 s m args below meth c H locs 0 0 (ql_Qrv below A args s) (F0 m 0 ls []) := by
  have C0q := C0
  obtain ⟨hx, hb, hr, hml, hown, hts, hlocks, hK, hA⟩ := C0q
  have fl1053 := hts (Cond.fieldLink RJ0 1053 "jdk/internal/util/Preconditions" "SIOOBE_FORMATTER" "Ljava/util/function/BiFunction;") (by decide +kernel)
  intro x0 x1 hf H locs ls hS hl
  unfold f_J0_checkIndex_df160_0 at hf
  refine lv_iload_n hx hb dJ0_checkIndex_df160_0 rfl (lv_at hl 0 rfl) ?_
  refine lv_iload_n hx hb dJ0_checkIndex_df160_1 rfl (lv_at hl 1 rfl) ?_
  rcases hE.2.2.2.2 with hz | ⟨tz, hz⟩
  · refine va_gets hx hb hz hS hown fl1053 (fun _ h9 => h9) dJ0_checkIndex_df160_2 ?_
    obtain ⟨u1, hu1, hf⟩ := ql_bd hf
    refine ql_callRSiE (As := [.int x0, .int x1, .null]) (rest := []) C0 hE (c_J3_checkIndex_8e157 l dC dI adK adV none N x0 x1 u1 hu1) (va_cwS 3 hts gJ0_checkIndex_df160_J3_checkIndex_8e157 rfl rfl rfl qd_J3_checkIndex_8e157 ⟨Nat.le_of_ble_eq_true rfl, Nat.le_of_ble_eq_true rfl⟩) (hK.sub [] rfl) ql_nil hS hl.1 rfl rfl (Nat.le_of_ble_eq_true rfl) dJ0_checkIndex_df160_5 (fun H1 locs hk hS => ?_)
    refine lv_pop hx hb dJ0_checkIndex_df160_8 rfl ?_
    exact ql_rvret C0 hS dJ0_checkIndex_df160_9
  · refine va_gets hx hb hz hS hown fl1053 (fun _ h9 => h9) dJ0_checkIndex_df160_2 ?_
    obtain ⟨u1, hu1, hf⟩ := ql_bd hf
    refine ql_callRSiE (As := [.int x0, .int x1, .ref tz]) (rest := []) C0 hE (c_J3_checkIndex_8e157 l dC dI adK adV (some tz) N x0 x1 u1 hu1) (va_cwS 3 hts gJ0_checkIndex_df160_J3_checkIndex_8e157 rfl rfl rfl qd_J3_checkIndex_8e157 ⟨Nat.le_of_ble_eq_true rfl, Nat.le_of_ble_eq_true rfl⟩) (hK.sub [] rfl) ql_nil hS hl.1 rfl rfl (Nat.le_of_ble_eq_true rfl) dJ0_checkIndex_df160_5 (fun H1 locs hk hS => ?_)
    refine lv_pop hx hb dJ0_checkIndex_df160_8 rfl ?_
    exact ql_rvret C0 hS dJ0_checkIndex_df160_9
set_option maxRecDepth 100000 in
theorem c_J0_checkIndex_df160 (l : Launch) (dC : Nat → ClassId) (dI : Nat → Nat → Nat) (adK adV : Nat → Nat) (N : Nat) (x0 : Int32) (x1 : Int32) (res : Unit) (hf : f_J0_checkIndex_df160 N x0 x1 = some res) : ql_RvE adK adV l yJ0_checkIndex_df160 wsJ0_checkIndex_df160 rm_J0_checkIndex_df160 (dC, dI) [] ([]) [.int x0, .int x1] :=
  ql_start_rvE (by decide) rfl (Nat.le_of_ble_eq_true rfl) (fun p e s m below meth c A ls C0 hl hP hS hE => w_J0_checkIndex_df160_0 C0 N hE x0 x1 hf s.heap [] ls hS (lv_sub (show lv_has ls 2 [(0, .int x0), (1, .int x1)] from hl) [0, 1] rfl))
/-! ===== java/lang/String.isLatin1()Z ===== -/
abbrev rm_J0_isLatin1_aae02 : Room := { frames := 0, cells := 0, slots := 0, locals := 0 }
theorem qv_J0_isLatin1_aae02 : yJ0_isLatin1_aae02.cls = RJ0 ∧ yJ0_isLatin1_aae02.cls ≠ "java/lang/invoke/MethodHandle" ∧ yJ0_isLatin1_aae02.cls ≠ "java/lang/invoke/VarHandle" ∧ (parseMethodDescriptor yJ0_isLatin1_aae02.desc).map (fun d => d.parameters.length) = some 0 := by decide +kernel
def f_J0_isLatin1_aae02_0 (N : Nat) : Option (Int32) := if (1 : Int32) = 0 then some 0 else if (0 : Int32) = 0 then some 1 else some 0
def f_J0_isLatin1_aae02 (N : Nat) : Option (Int32) := f_J0_isLatin1_aae02_0 N
set_option maxHeartbeats 4000000 in
set_option maxRecDepth 100000 in
theorem w_J0_isLatin1_aae02_0 {p : Program} {l : Launch} {e : Env} {s : State} {m : MethodId} {args : Array Value} {below : List Frame} {meth : Method} {c : Code} {dC : Nat → ClassId} {dI : Nat → Nat → Nat} {A : Nat → Prop} {adK adV : Nat → Nat} {res : Int32} (C0 : ql_C p s m args meth c cJ0_isLatin1_aae02 1 (some .boolean) wsJ0_isLatin1_aae02 RJ0 (dC, dI) [] A) (N : Nat) (hE : ql_E adK adV A s s.heap) : f_J0_isLatin1_aae02_0 N = some res → ∀ (H : Heap) (locs : List Loc) (ls : Array Slot), va_S A s.heap H locs → lv_has ls 1 [(0, .ref (adK 0))] → W p l e rm_J0_isLatin1_aae02 s m args below meth c H locs 0 0 (ql_Qri below A args s res) (F0 m 0 ls []) := by
  have C0q := C0
  obtain ⟨hx, hb, hr, hml, hown, hts, hlocks, hK, hA⟩ := C0q
  have fl38 := hts (Cond.fieldLink RJ0 38 "java/lang/String" "COMPACT_STRINGS" "Z") (by decide +kernel)
  have fl15 := hts (Cond.fieldLink RJ0 15 "java/lang/String" "coder" "B") (by decide +kernel)
  intro hf H locs ls hS hl
  unfold f_J0_isLatin1_aae02_0 at hf
  refine va_gets hx hb hE.2.2.2.1 hS hown fl38 (fun _ h9 => h9) dJ0_isLatin1_aae02_0 ?_
  refine lv_if_eq (tgt := 17) hx hb dJ0_isLatin1_aae02_3 (by decide) (fun c1 => ?_) (fun c1 => ?_)
  · have hf := (if_pos c1).symm.trans hf
    refine lv_iconst (v := 0) hx hb dJ0_isLatin1_aae02_17 (by decide) ?_
    exact ql_rzret C0 (Or.inl rfl) hf hS dJ0_isLatin1_aae02_18
  · have hf := (if_neg c1).symm.trans hf
    refine lv_aload_n hx hb dJ0_isLatin1_aae02_6 rfl (lv_at hl 0 rfl) ?_
    refine vk_getf hx hb (hE.2.2.1.1 0 (by decide)).2.1 hS hown fl15 (fun _ h9 => h9) dJ0_isLatin1_aae02_7 ?_
    refine lv_if_ne (tgt := 17) hx hb dJ0_isLatin1_aae02_10 (by decide) (fun c2 => ?_) (fun c2 => ?_)
    · have hf := (if_neg c2).symm.trans hf
      refine lv_iconst (v := 0) hx hb dJ0_isLatin1_aae02_17 (by decide) ?_
      exact ql_rzret C0 (Or.inl rfl) hf hS dJ0_isLatin1_aae02_18
    · have hf := (if_pos c2).symm.trans hf
      refine lv_iconst (v := 1) hx hb dJ0_isLatin1_aae02_13 (by decide) ?_
      refine lv_goto (tgt := 18) hx hb dJ0_isLatin1_aae02_14 (by decide) ?_
      exact ql_rzret C0 (Or.inr rfl) hf hS dJ0_isLatin1_aae02_18
set_option maxRecDepth 100000 in
theorem c_J0_isLatin1_aae02 (l : Launch) (dC : Nat → ClassId) (dI : Nat → Nat → Nat) (adK adV : Nat → Nat) (N : Nat) (res : Int32) (hf : f_J0_isLatin1_aae02 N = some res) : ql_RiE adK adV l yJ0_isLatin1_aae02 wsJ0_isLatin1_aae02 rm_J0_isLatin1_aae02 (dC, dI) [] ([]) [.ref (adK 0)] res :=
  ql_start_riE (by decide) rfl (Nat.le_of_ble_eq_true rfl) (fun p e s m below meth c A ls C0 hl hP hS hE => w_J0_isLatin1_aae02_0 C0 N hE hf s.heap [] ls hS (lv_sub (show lv_has ls 1 [(0, .ref (adK 0))] from hl) [0] rfl))
/-! ===== java/lang/StringLatin1.charAt([BI)C ===== -/
abbrev rm_J1_charAt_3b067 : Room := { frames := 2, cells := 0, slots := 0, locals := 43 }
theorem qd_J1_charAt_3b067 : yJ1_charAt_3b067.cls ≠ "java/lang/invoke/MethodHandle" ∧ yJ1_charAt_3b067.cls ≠ "java/lang/invoke/VarHandle" ∧ (parseMethodDescriptor yJ1_charAt_3b067.desc).map (fun d => d.parameters.length) = some 2 := by decide +kernel
def f_J1_charAt_3b067_0 (N : Nat) (x1 : Int32) : Option (Int32) := (f_J0_checkIndex_df160 N x1 90).bind fun u1 => if ql_ib x1 90 = true then if ql_cz ((((ql_sb 0 x1.toNatClampNeg) &&& 255).toUInt32 % 65536).toInt32) = true then some ((((ql_sb 0 x1.toNatClampNeg) &&& 255).toUInt32 % 65536).toInt32) else none else none
def f_J1_charAt_3b067 (N : Nat) (x1 : Int32) : Option (Int32) := f_J1_charAt_3b067_0 N x1
set_option maxHeartbeats 4000000 in
set_option maxRecDepth 100000 in
theorem w_J1_charAt_3b067_0 {p : Program} {l : Launch} {e : Env} {s : State} {m : MethodId} {args : Array Value} {below : List Frame} {meth : Method} {c : Code} {dC : Nat → ClassId} {dI : Nat → Nat → Nat} {A : Nat → Prop} {adK adV : Nat → Nat} {res : Int32} (C0 : ql_C p s m args meth c cJ1_charAt_3b067 2 (some .char) wsJ1_charAt_3b067 RJ1 (dC, dI) [] A) (N : Nat) (hE : ql_E adK adV A s s.heap) : ∀ (x1 : Int32), f_J1_charAt_3b067_0 N x1 = some res → ∀ (H : Heap) (locs : List Loc) (ls : Array Slot), va_S A s.heap H locs → lv_has ls 2 [(0, .ref (adV 0)), (1, .int x1)] → W p l e rm_J1_charAt_3b067 s m args below meth c H locs 0 0 (ql_Qri below A args s res) (F0 m 0 ls []) := by
  have C0q := C0
  obtain ⟨hx, hb, hr, hml, hown, hts, hlocks, hK, hA⟩ := C0q
  intro x1 hf H locs ls hS hl
  unfold f_J1_charAt_3b067_0 at hf
  refine lv_iload_n hx hb dJ1_charAt_3b067_0 rfl (lv_at hl 1 rfl) ?_
  refine lv_aload_n hx hb dJ1_charAt_3b067_1 rfl (lv_at hl 0 rfl) ?_
  refine va_tlen hx hb (hE.2.2.1.1 0 (by decide)).2.2.2 hS (v := 90) (show Int32.ofNat (ql_len.getD 0 0) = 90 by decide) dJ1_charAt_3b067_2 ?_
  obtain ⟨u1, hu1, hf⟩ := ql_bd hf
  refine ql_callRSvE (As := [.int x1, .int 90]) (rest := []) C0 hE (c_J0_checkIndex_df160 l dC dI adK adV N x1 90 u1 hu1) (va_cwS 2 hts gJ1_charAt_3b067_J0_checkIndex_df160 rfl rfl rfl qd_J0_checkIndex_df160 ⟨Nat.le_of_ble_eq_true rfl, Nat.le_of_ble_eq_true rfl⟩) (hK.sub [] rfl) ql_nil hS hl.1 rfl rfl (Nat.le_of_ble_eq_true rfl) dJ1_charAt_3b067_3 (fun H1 locs hk hS => ?_)
  refine lv_aload_n hx hb dJ1_charAt_3b067_6 rfl (lv_at hl 0 rfl) ?_
  refine lv_iload_n hx hb dJ1_charAt_3b067_7 rfl (lv_at hl 1 rfl) ?_
  have g0 := ql_in (ql_gt hf)
  have hf := ql_gx hf
  refine va_tb hx hb (hE.2.2.1.1 0 (by decide)).2.2.2 hS (show vp_in _ (ql_len.getD 0 0) from g0) (v := .int (ql_sb 0 x1.toNatClampNeg)) rfl dJ1_charAt_3b067_8 ?_
  refine lv_sipush (v := 255) hx hb dJ1_charAt_3b067_9 (by decide) ?_
  refine lv_iand hx hb dJ1_charAt_3b067_12 ?_
  refine lv_i2c hx hb dJ1_charAt_3b067_13 rfl ?_
  exact ql_rnret C0 (ql_czo (ql_gt hf)) (ql_gx hf) hS dJ1_charAt_3b067_14
set_option maxRecDepth 100000 in
theorem c_J1_charAt_3b067 (l : Launch) (dC : Nat → ClassId) (dI : Nat → Nat → Nat) (adK adV : Nat → Nat) (N : Nat) (x1 : Int32) (res : Int32) (hf : f_J1_charAt_3b067 N x1 = some res) : ql_RiE adK adV l yJ1_charAt_3b067 wsJ1_charAt_3b067 rm_J1_charAt_3b067 (dC, dI) [] ([]) [.ref (adV 0), .int x1] res :=
  ql_start_riE (by decide) rfl (Nat.le_of_ble_eq_true rfl) (fun p e s m below meth c A ls C0 hl hP hS hE => w_J1_charAt_3b067_0 C0 N hE x1 hf s.heap [] ls hS (lv_sub (show lv_has ls 2 [(0, .ref (adV 0)), (1, .int x1)] from hl) [0, 1] rfl))
/-! ===== java/lang/String.charAt(I)C ===== -/
abbrev rm_J0_charAt_5068e : Room := { frames := 3, cells := 0, slots := 0, locals := 64 }
theorem qv_J0_charAt_5068e : yJ0_charAt_5068e.cls = RJ0 ∧ yJ0_charAt_5068e.cls ≠ "java/lang/invoke/MethodHandle" ∧ yJ0_charAt_5068e.cls ≠ "java/lang/invoke/VarHandle" ∧ (parseMethodDescriptor yJ0_charAt_5068e.desc).map (fun d => d.parameters.length) = some 1 := by decide +kernel
def f_J0_charAt_5068e_0 (N : Nat) (x1 : Int32) : Option (Int32) := (f_J0_isLatin1_aae02 N).bind fun u1 => if u1 = 0 then none else (f_J1_charAt_3b067 N x1).bind fun u3 => if ql_cz u3 = true then some u3 else none
def f_J0_charAt_5068e (N : Nat) (x1 : Int32) : Option (Int32) := f_J0_charAt_5068e_0 N x1
set_option maxHeartbeats 4000000 in
set_option maxRecDepth 100000 in
theorem w_J0_charAt_5068e_0 {p : Program} {l : Launch} {e : Env} {s : State} {m : MethodId} {args : Array Value} {below : List Frame} {meth : Method} {c : Code} {dC : Nat → ClassId} {dI : Nat → Nat → Nat} {A : Nat → Prop} {adK adV : Nat → Nat} {res : Int32} (C0 : ql_C p s m args meth c cJ0_charAt_5068e 2 (some .char) wsJ0_charAt_5068e RJ0 (dC, dI) [] A) (N : Nat) (hE : ql_E adK adV A s s.heap) : ∀ (x1 : Int32), f_J0_charAt_5068e_0 N x1 = some res → ∀ (H : Heap) (locs : List Loc) (ls : Array Slot), va_S A s.heap H locs → lv_has ls 2 [(0, .ref (adK 0)), (1, .int x1)] → W p l e rm_J0_charAt_5068e s m args below meth c H locs 0 0 (ql_Qri below A args s res) (F0 m 0 ls []) := by
  have C0q := C0
  obtain ⟨hx, hb, hr, hml, hown, hts, hlocks, hK, hA⟩ := C0q
  have fl9 := hts (Cond.fieldLink RJ0 9 "java/lang/String" "value" "[B") (by decide +kernel)
  intro x1 hf H locs ls hS hl
  unfold f_J0_charAt_5068e_0 at hf
  refine lv_aload_n hx hb dJ0_charAt_5068e_0 rfl (lv_at hl 0 rfl) ?_
  obtain ⟨u1, hu1, hf⟩ := ql_bd hf
  refine ql_callRViE (As := []) (rest := []) C0 hE (c_J0_isLatin1_aae02 l dC dI adK adV N u1 hu1) (cwV 0 hts gJ0_charAt_5068e_J0_isLatin1_aae02 rfl rfl rfl qv_J0_isLatin1_aae02 ⟨Nat.le_of_ble_eq_true rfl, Nat.le_of_ble_eq_true rfl⟩) (vk_recv (i := 0) hE.2.2.1 (by decide) hS) (hK.sub [] rfl) ql_nil hS hl.1 rfl rfl (Nat.le_of_ble_eq_true rfl) dJ0_charAt_5068e_1 (fun H1 locs hk hS => ?_)
  refine lv_if_eq (tgt := 16) hx hb dJ0_charAt_5068e_4 (by decide) (fun c2 => ?_) (fun c2 => ?_)
  · have hf := (if_pos c2).symm.trans hf
    cases hf
  · have hf := (if_neg c2).symm.trans hf
    refine lv_aload_n hx hb dJ0_charAt_5068e_7 rfl (lv_at hl 0 rfl) ?_
    refine vk_getf hx hb (hE.2.2.1.1 0 (by decide)).2.2.1 hS hown fl9 (fun _ h9 => h9) dJ0_charAt_5068e_8 ?_
    refine lv_iload_n hx hb dJ0_charAt_5068e_11 rfl (lv_at hl 1 rfl) ?_
    obtain ⟨u3, hu3, hf⟩ := ql_bd hf
    refine ql_callRSiE (As := [.ref (adV 0), .int x1]) (rest := []) C0 hE (c_J1_charAt_3b067 l dC dI adK adV N x1 u3 hu3) (va_cwS 2 hts gJ0_charAt_5068e_J1_charAt_3b067 rfl rfl rfl qd_J1_charAt_3b067 ⟨Nat.le_of_ble_eq_true rfl, Nat.le_of_ble_eq_true rfl⟩) (hK.sub [] rfl) ql_nil hS hl.1 rfl rfl (Nat.le_of_ble_eq_true rfl) dJ0_charAt_5068e_12 (fun H1 locs hk hS => ?_)
    exact ql_rnret C0 (ql_czo (ql_gt hf)) (ql_gx hf) hS dJ0_charAt_5068e_15
set_option maxRecDepth 100000 in
theorem c_J0_charAt_5068e (l : Launch) (dC : Nat → ClassId) (dI : Nat → Nat → Nat) (adK adV : Nat → Nat) (N : Nat) (x1 : Int32) (res : Int32) (hf : f_J0_charAt_5068e N x1 = some res) : ql_RiE adK adV l yJ0_charAt_5068e wsJ0_charAt_5068e rm_J0_charAt_5068e (dC, dI) [] ([]) [.ref (adK 0), .int x1] res :=
  ql_start_riE (by decide) rfl (Nat.le_of_ble_eq_true rfl) (fun p e s m below meth c A ls C0 hl hP hS hE => w_J0_charAt_5068e_0 C0 N hE x1 hf s.heap [] ls hS (lv_sub (show lv_has ls 2 [(0, .ref (adK 0)), (1, .int x1)] from hl) [0, 1] rfl))
/-! ===== java/lang/String.isLatin1()Z ===== -/
abbrev rm_J0_isLatin1_aae02s : Room := { frames := 0, cells := 0, slots := 0, locals := 0 }
def f_J0_isLatin1_aae02s_0 (N : Nat) : Option (Int32) := if (1 : Int32) = 0 then some 0 else if (0 : Int32) = 0 then some 1 else some 0
def f_J0_isLatin1_aae02s (N : Nat) : Option (Int32) := f_J0_isLatin1_aae02s_0 N
set_option maxHeartbeats 4000000 in
set_option maxRecDepth 100000 in
theorem w_J0_isLatin1_aae02s_0 {p : Program} {l : Launch} {e : Env} {s : State} {m : MethodId} {args : Array Value} {below : List Frame} {meth : Method} {c : Code} {dC : Nat → ClassId} {dI : Nat → Nat → Nat} {A : Nat → Prop} {adK adV : Nat → Nat} {res : Int32} (C0 : ql_C p s m args meth c cJ0_isLatin1_aae02 1 (some .boolean) wsJ0_isLatin1_aae02 RJ0 (dC, dI) [] A) (N : Nat) (hE : ql_E adK adV A s s.heap) : f_J0_isLatin1_aae02s_0 N = some res → ∀ (H : Heap) (locs : List Loc) (ls : Array Slot), va_S A s.heap H locs → lv_has ls 1 [(0, .ref (adK 1))] → W p l e rm_J0_isLatin1_aae02s s m args below meth c H locs 0 0 (ql_Qri below A args s res) (F0 m 0 ls []) := by
  have C0q := C0
  obtain ⟨hx, hb, hr, hml, hown, hts, hlocks, hK, hA⟩ := C0q
  have fl38 := hts (Cond.fieldLink RJ0 38 "java/lang/String" "COMPACT_STRINGS" "Z") (by decide +kernel)
  have fl15 := hts (Cond.fieldLink RJ0 15 "java/lang/String" "coder" "B") (by decide +kernel)
  intro hf H locs ls hS hl
  unfold f_J0_isLatin1_aae02s_0 at hf
  refine va_gets hx hb hE.2.2.2.1 hS hown fl38 (fun _ h9 => h9) dJ0_isLatin1_aae02_0 ?_
  refine lv_if_eq (tgt := 17) hx hb dJ0_isLatin1_aae02_3 (by decide) (fun c1 => ?_) (fun c1 => ?_)
  · have hf := (if_pos c1).symm.trans hf
    refine lv_iconst (v := 0) hx hb dJ0_isLatin1_aae02_17 (by decide) ?_
    exact ql_rzret C0 (Or.inl rfl) hf hS dJ0_isLatin1_aae02_18
  · have hf := (if_neg c1).symm.trans hf
    refine lv_aload_n hx hb dJ0_isLatin1_aae02_6 rfl (lv_at hl 0 rfl) ?_
    refine vk_getf hx hb (hE.2.2.1.1 1 (by decide)).2.1 hS hown fl15 (fun _ h9 => h9) dJ0_isLatin1_aae02_7 ?_
    refine lv_if_ne (tgt := 17) hx hb dJ0_isLatin1_aae02_10 (by decide) (fun c2 => ?_) (fun c2 => ?_)
    · have hf := (if_neg c2).symm.trans hf
      refine lv_iconst (v := 0) hx hb dJ0_isLatin1_aae02_17 (by decide) ?_
      exact ql_rzret C0 (Or.inl rfl) hf hS dJ0_isLatin1_aae02_18
    · have hf := (if_pos c2).symm.trans hf
      refine lv_iconst (v := 1) hx hb dJ0_isLatin1_aae02_13 (by decide) ?_
      refine lv_goto (tgt := 18) hx hb dJ0_isLatin1_aae02_14 (by decide) ?_
      exact ql_rzret C0 (Or.inr rfl) hf hS dJ0_isLatin1_aae02_18
set_option maxRecDepth 100000 in
theorem c_J0_isLatin1_aae02s (l : Launch) (dC : Nat → ClassId) (dI : Nat → Nat → Nat) (adK adV : Nat → Nat) (N : Nat) (res : Int32) (hf : f_J0_isLatin1_aae02s N = some res) : ql_RiE adK adV l yJ0_isLatin1_aae02 wsJ0_isLatin1_aae02 rm_J0_isLatin1_aae02s (dC, dI) [] ([]) [.ref (adK 1)] res :=
  ql_start_riE (by decide) rfl (Nat.le_of_ble_eq_true rfl) (fun p e s m below meth c A ls C0 hl hP hS hE => w_J0_isLatin1_aae02s_0 C0 N hE hf s.heap [] ls hS (lv_sub (show lv_has ls 1 [(0, .ref (adK 1))] from hl) [0] rfl))
/-! ===== java/lang/String.coder()B ===== -/
abbrev rm_J0_coder_7d493 : Room := { frames := 0, cells := 0, slots := 0, locals := 0 }
theorem qv_J0_coder_7d493 : yJ0_coder_7d493.cls = RJ0 ∧ yJ0_coder_7d493.cls ≠ "java/lang/invoke/MethodHandle" ∧ yJ0_coder_7d493.cls ≠ "java/lang/invoke/VarHandle" ∧ (parseMethodDescriptor yJ0_coder_7d493.desc).map (fun d => d.parameters.length) = some 0 := by decide +kernel
def f_J0_coder_7d493_0 (N : Nat) : Option (Int32) := if (1 : Int32) = 0 then some 1 else some 0
def f_J0_coder_7d493 (N : Nat) : Option (Int32) := f_J0_coder_7d493_0 N
set_option maxHeartbeats 4000000 in
set_option maxRecDepth 100000 in
theorem w_J0_coder_7d493_0 {p : Program} {l : Launch} {e : Env} {s : State} {m : MethodId} {args : Array Value} {below : List Frame} {meth : Method} {c : Code} {dC : Nat → ClassId} {dI : Nat → Nat → Nat} {A : Nat → Prop} {adK adV : Nat → Nat} {res : Int32} (C0 : ql_C p s m args meth c cJ0_coder_7d493 1 (some .byte) wsJ0_coder_7d493 RJ0 (dC, dI) [] A) (N : Nat) (hE : ql_E adK adV A s s.heap) : f_J0_coder_7d493_0 N = some res → ∀ (H : Heap) (locs : List Loc) (ls : Array Slot), va_S A s.heap H locs → lv_has ls 1 [(0, .ref (adK 1))] → W p l e rm_J0_coder_7d493 s m args below meth c H locs 0 0 (ql_Qri below A args s res) (F0 m 0 ls []) := by
  have C0q := C0
  obtain ⟨hx, hb, hr, hml, hown, hts, hlocks, hK, hA⟩ := C0q
  have fl38 := hts (Cond.fieldLink RJ0 38 "java/lang/String" "COMPACT_STRINGS" "Z") (by decide +kernel)
  have fl15 := hts (Cond.fieldLink RJ0 15 "java/lang/String" "coder" "B") (by decide +kernel)
  intro hf H locs ls hS hl
  unfold f_J0_coder_7d493_0 at hf
  refine va_gets hx hb hE.2.2.2.1 hS hown fl38 (fun _ h9 => h9) dJ0_coder_7d493_0 ?_
  refine lv_if_eq (tgt := 13) hx hb dJ0_coder_7d493_3 (by decide) (fun c1 => ?_) (fun c1 => ?_)
  · have hf := (if_pos c1).symm.trans hf
    refine lv_iconst (v := 1) hx hb dJ0_coder_7d493_13 (by decide) ?_
    exact ql_rnret C0 rfl hf hS dJ0_coder_7d493_14
  · have hf := (if_neg c1).symm.trans hf
    refine lv_aload_n hx hb dJ0_coder_7d493_6 rfl (lv_at hl 0 rfl) ?_
    refine vk_getf hx hb (hE.2.2.1.1 1 (by decide)).2.1 hS hown fl15 (fun _ h9 => h9) dJ0_coder_7d493_7 ?_
    refine lv_goto (tgt := 14) hx hb dJ0_coder_7d493_10 (by decide) ?_
    exact ql_rnret C0 rfl hf hS dJ0_coder_7d493_14
set_option maxRecDepth 100000 in
theorem c_J0_coder_7d493 (l : Launch) (dC : Nat → ClassId) (dI : Nat → Nat → Nat) (adK adV : Nat → Nat) (N : Nat) (res : Int32) (hf : f_J0_coder_7d493 N = some res) : ql_RiE adK adV l yJ0_coder_7d493 wsJ0_coder_7d493 rm_J0_coder_7d493 (dC, dI) [] ([]) [.ref (adK 1)] res :=
  ql_start_riE (by decide) rfl (Nat.le_of_ble_eq_true rfl) (fun p e s m below meth c A ls C0 hl hP hS hE => w_J0_coder_7d493_0 C0 N hE hf s.heap [] ls hS (lv_sub (show lv_has ls 1 [(0, .ref (adK 1))] from hl) [0] rfl))
/-! ===== java/lang/String.length()I ===== -/
abbrev rm_J0_length_8abf5 : Room := { frames := 1, cells := 0, slots := 0, locals := 20 }
theorem qv_J0_length_8abf5 : yJ0_length_8abf5.cls = RJ0 ∧ yJ0_length_8abf5.cls ≠ "java/lang/invoke/MethodHandle" ∧ yJ0_length_8abf5.cls ≠ "java/lang/invoke/VarHandle" ∧ (parseMethodDescriptor yJ0_length_8abf5.desc).map (fun d => d.parameters.length) = some 0 := by decide +kernel
def f_J0_length_8abf5_0 (N : Nat) : Option (Int32) := (f_J0_coder_7d493 N).bind fun u1 => some ((8 : Int32) >>> (u1 &&& 31))
def f_J0_length_8abf5 (N : Nat) : Option (Int32) := f_J0_length_8abf5_0 N
set_option maxHeartbeats 4000000 in
set_option maxRecDepth 100000 in
theorem w_J0_length_8abf5_0 {p : Program} {l : Launch} {e : Env} {s : State} {m : MethodId} {args : Array Value} {below : List Frame} {meth : Method} {c : Code} {dC : Nat → ClassId} {dI : Nat → Nat → Nat} {A : Nat → Prop} {adK adV : Nat → Nat} {res : Int32} (C0 : ql_C p s m args meth c cJ0_length_8abf5 1 (some .int) wsJ0_length_8abf5 RJ0 (dC, dI) [] A) (N : Nat) (hE : ql_E adK adV A s s.heap) : f_J0_length_8abf5_0 N = some res → ∀ (H : Heap) (locs : List Loc) (ls : Array Slot), va_S A s.heap H locs → lv_has ls 1 [(0, .ref (adK 1))] → W p l e rm_J0_length_8abf5 s m args below meth c H locs 0 0 (ql_Qri below A args s res) (F0 m 0 ls []) := by
  have C0q := C0
  obtain ⟨hx, hb, hr, hml, hown, hts, hlocks, hK, hA⟩ := C0q
  have fl9 := hts (Cond.fieldLink RJ0 9 "java/lang/String" "value" "[B") (by decide +kernel)
  intro hf H locs ls hS hl
  unfold f_J0_length_8abf5_0 at hf
  refine lv_aload_n hx hb dJ0_length_8abf5_0 rfl (lv_at hl 0 rfl) ?_
  refine vk_getf hx hb (hE.2.2.1.1 1 (by decide)).2.2.1 hS hown fl9 (fun _ h9 => h9) dJ0_length_8abf5_1 ?_
  refine va_tlen hx hb (hE.2.2.1.1 1 (by decide)).2.2.2 hS (v := 8) (show Int32.ofNat (ql_len.getD 1 0) = 8 by decide) dJ0_length_8abf5_4 ?_
  refine lv_aload_n hx hb dJ0_length_8abf5_5 rfl (lv_at hl 0 rfl) ?_
  obtain ⟨u1, hu1, hf⟩ := ql_bd hf
  refine ql_callRViE (As := []) (rest := [.int 8]) C0 hE (c_J0_coder_7d493 l dC dI adK adV N u1 hu1) (cwV 0 hts gJ0_length_8abf5_J0_coder_7d493 rfl rfl rfl qv_J0_coder_7d493 ⟨Nat.le_of_ble_eq_true rfl, Nat.le_of_ble_eq_true rfl⟩) (vk_recv (i := 1) hE.2.2.1 (by decide) hS) (hK.sub [] rfl) ql_nil hS hl.1 rfl rfl (Nat.le_of_ble_eq_true rfl) dJ0_length_8abf5_6 (fun H1 locs hk hS => ?_)
  refine lv_ishr hx hb dJ0_length_8abf5_9 ?_
  exact ql_riret C0 hf hS dJ0_length_8abf5_10
set_option maxRecDepth 100000 in
theorem c_J0_length_8abf5 (l : Launch) (dC : Nat → ClassId) (dI : Nat → Nat → Nat) (adK adV : Nat → Nat) (N : Nat) (res : Int32) (hf : f_J0_length_8abf5 N = some res) : ql_RiE adK adV l yJ0_length_8abf5 wsJ0_length_8abf5 rm_J0_length_8abf5 (dC, dI) [] ([]) [.ref (adK 1)] res :=
  ql_start_riE (by decide) rfl (Nat.le_of_ble_eq_true rfl) (fun p e s m below meth c A ls C0 hl hP hS hE => w_J0_length_8abf5_0 C0 N hE hf s.heap [] ls hS (lv_sub (show lv_has ls 1 [(0, .ref (adK 1))] from hl) [0] rfl))
/-! ===== java/lang/StringLatin1.canEncode(I)Z ===== -/
abbrev rm_J1_canEncode_9a6ad : Room := { frames := 0, cells := 0, slots := 0, locals := 0 }
theorem qd_J1_canEncode_9a6ad : yJ1_canEncode_9a6ad.cls ≠ "java/lang/invoke/MethodHandle" ∧ yJ1_canEncode_9a6ad.cls ≠ "java/lang/invoke/VarHandle" ∧ (parseMethodDescriptor yJ1_canEncode_9a6ad.desc).map (fun d => d.parameters.length) = some 1 := by decide +kernel
def f_J1_canEncode_9a6ad_0 (N : Nat) (x0 : Int32) : Option (Int32) := if x0 < 0 then some 0 else if 255 < x0 then some 0 else some 1
def f_J1_canEncode_9a6ad (N : Nat) (x0 : Int32) : Option (Int32) := f_J1_canEncode_9a6ad_0 N x0
set_option maxHeartbeats 4000000 in
set_option maxRecDepth 100000 in
theorem w_J1_canEncode_9a6ad_0 {p : Program} {l : Launch} {e : Env} {s : State} {m : MethodId} {args : Array Value} {below : List Frame} {meth : Method} {c : Code} {dC : Nat → ClassId} {dI : Nat → Nat → Nat} {A : Nat → Prop} {adK adV : Nat → Nat} {res : Int32} (C0 : ql_C p s m args meth c cJ1_canEncode_9a6ad 1 (some .boolean) wsJ1_canEncode_9a6ad RJ1 (dC, dI) [] A) (N : Nat) (hE : ql_E adK adV A s s.heap) : ∀ (x0 : Int32), f_J1_canEncode_9a6ad_0 N x0 = some res → ∀ (H : Heap) (locs : List Loc) (ls : Array Slot), va_S A s.heap H locs → lv_has ls 1 [(0, .int x0)] → W p l e rm_J1_canEncode_9a6ad s m args below meth c H locs 0 0 (ql_Qri below A args s res) (F0 m 0 ls []) := by
  have C0q := C0
  obtain ⟨hx, hb, hr, hml, hown, hts, hlocks, hK, hA⟩ := C0q
  intro x0 hf H locs ls hS hl
  unfold f_J1_canEncode_9a6ad_0 at hf
  refine lv_iload_n hx hb dJ1_canEncode_9a6ad_0 rfl (lv_at hl 0 rfl) ?_
  refine lv_if_lt (tgt := 15) hx hb dJ1_canEncode_9a6ad_1 (by decide) (fun c1 => ?_) (fun c1 => ?_)
  · have hf := (if_pos c1).symm.trans hf
    refine lv_iconst (v := 0) hx hb dJ1_canEncode_9a6ad_15 (by decide) ?_
    exact ql_rzret C0 (Or.inl rfl) hf hS dJ1_canEncode_9a6ad_16
  · have hf := (if_neg c1).symm.trans hf
    refine lv_iload_n hx hb dJ1_canEncode_9a6ad_4 rfl (lv_at hl 0 rfl) ?_
    refine lv_sipush (v := 255) hx hb dJ1_canEncode_9a6ad_5 (by decide) ?_
    refine lv_icmp_gt (tgt := 15) hx hb dJ1_canEncode_9a6ad_8 (by decide) (fun c2 => ?_) (fun c2 => ?_)
    · have hf := (if_pos c2).symm.trans hf
      refine lv_iconst (v := 0) hx hb dJ1_canEncode_9a6ad_15 (by decide) ?_
      exact ql_rzret C0 (Or.inl rfl) hf hS dJ1_canEncode_9a6ad_16
    · have hf := (if_neg c2).symm.trans hf
      refine lv_iconst (v := 1) hx hb dJ1_canEncode_9a6ad_11 (by decide) ?_
      refine lv_goto (tgt := 16) hx hb dJ1_canEncode_9a6ad_12 (by decide) ?_
      exact ql_rzret C0 (Or.inr rfl) hf hS dJ1_canEncode_9a6ad_16
set_option maxRecDepth 100000 in
theorem c_J1_canEncode_9a6ad (l : Launch) (dC : Nat → ClassId) (dI : Nat → Nat → Nat) (adK adV : Nat → Nat) (N : Nat) (x0 : Int32) (res : Int32) (hf : f_J1_canEncode_9a6ad N x0 = some res) : ql_RiE adK adV l yJ1_canEncode_9a6ad wsJ1_canEncode_9a6ad rm_J1_canEncode_9a6ad (dC, dI) [] ([]) [.int x0] res :=
  ql_start_riE (by decide) rfl (Nat.le_of_ble_eq_true rfl) (fun p e s m below meth c A ls C0 hl hP hS hE => w_J1_canEncode_9a6ad_0 C0 N hE x0 hf s.heap [] ls hS (lv_sub (show lv_has ls 1 [(0, .int x0)] from hl) [0] rfl))
/-! ===== java/lang/StringLatin1.indexOfChar([BIII)I ===== -/
abbrev rm_J1_indexOfChar_4cfef : Room := { frames := 0, cells := 0, slots := 0, locals := 0 }
theorem qd_J1_indexOfChar_4cfef : yJ1_indexOfChar_4cfef.cls ≠ "java/lang/invoke/MethodHandle" ∧ yJ1_indexOfChar_4cfef.cls ≠ "java/lang/invoke/VarHandle" ∧ (parseMethodDescriptor yJ1_indexOfChar_4cfef.desc).map (fun d => d.parameters.length) = some 4 := by decide +kernel
def f_J1_indexOfChar_4cfef_7 (N : Nat) : Nat → Int32 → Int32 → Int32 → Option (Int32)
  | 0, _, _, _ => none
  | n + 1, x3, x4, x5 => if x3 ≤ x5 then some (-1) else if ql_ib x5 8 = true then if (ql_sb 1 x5.toNatClampNeg) = x4 then some x5 else f_J1_indexOfChar_4cfef_7 N n x3 x4 (x5 + 1) else none
def f_J1_indexOfChar_4cfef_0 (N : Nat) (x1 : Int32) (x2 : Int32) (x3 : Int32) : Option (Int32) := f_J1_indexOfChar_4cfef_7 N N x3 x1.toInt8.toInt32 x2
def f_J1_indexOfChar_4cfef (N : Nat) (x1 : Int32) (x2 : Int32) (x3 : Int32) : Option (Int32) := f_J1_indexOfChar_4cfef_0 N x1 x2 x3
set_option maxHeartbeats 4000000 in
set_option maxRecDepth 100000 in
theorem w_J1_indexOfChar_4cfef_7 {p : Program} {l : Launch} {e : Env} {s : State} {m : MethodId} {args : Array Value} {below : List Frame} {meth : Method} {c : Code} {dC : Nat → ClassId} {dI : Nat → Nat → Nat} {A : Nat → Prop} {adK adV : Nat → Nat} {res : Int32} (C0 : ql_C p s m args meth c cJ1_indexOfChar_4cfef 6 (some .int) wsJ1_indexOfChar_4cfef RJ1 (dC, dI) [] A) (N : Nat) (hE : ql_E adK adV A s s.heap) : ∀ (n : Nat), ∀ (x3 : Int32) (x4 : Int32) (x5 : Int32), f_J1_indexOfChar_4cfef_7 N n x3 x4 x5 = some res → ∀ (H : Heap) (locs : List Loc) (ls : Array Slot), va_S A s.heap H locs → lv_has ls 6 [(0, .ref (adV 1)), (3, .int x3), (4, .int x4), (5, .int x5)] → W p l e rm_J1_indexOfChar_4cfef s m args below meth c H locs 0 0 (ql_Qri below A args s res) (F0 m 7 ls []) := by
  have C0q := C0
  obtain ⟨hx, hb, hr, hml, hown, hts, hlocks, hK, hA⟩ := C0q
  intro n
  induction n with
  | zero =>
    intro x3 x4 x5 hf
    rw [f_J1_indexOfChar_4cfef_7] at hf
    cases hf
  | succ n ih =>
    intro x3 x4 x5 hf H locs ls hS hl
    rw [f_J1_indexOfChar_4cfef_7] at hf
    refine lv_iload hx hb dJ1_indexOfChar_4cfef_7 (lv_at hl 3 rfl) ?_
    refine lv_iload_n hx hb dJ1_indexOfChar_4cfef_9 rfl (lv_at hl 1 rfl) ?_
    refine lv_icmp_ge (tgt := 31) hx hb dJ1_indexOfChar_4cfef_10 (by decide) (fun c1 => ?_) (fun c1 => ?_)
    · have hf := (if_pos c1).symm.trans hf
      refine lv_iconst (v := (-1)) hx hb dJ1_indexOfChar_4cfef_31 (by decide) ?_
      exact ql_riret C0 hf hS dJ1_indexOfChar_4cfef_32
    · have hf := (if_neg c1).symm.trans hf
      refine lv_aload_n hx hb dJ1_indexOfChar_4cfef_13 rfl (lv_at hl 0 rfl) ?_
      refine lv_iload hx hb dJ1_indexOfChar_4cfef_14 (lv_at hl 3 rfl) ?_
      have g0 := ql_in (ql_gt hf)
      have hf := ql_gx hf
      refine va_tb hx hb (hE.2.2.1.1 1 (by decide)).2.2.2 hS (show vp_in _ (ql_len.getD 1 0) from g0) (v := .int (ql_sb 1 x5.toNatClampNeg)) rfl dJ1_indexOfChar_4cfef_16 ?_
      refine lv_iload hx hb dJ1_indexOfChar_4cfef_17 (lv_at hl 2 rfl) ?_
      refine lv_icmp_ne (tgt := 25) hx hb dJ1_indexOfChar_4cfef_19 (by decide) (fun c2 => ?_) (fun c2 => ?_)
      · have hf := (if_neg c2).symm.trans hf
        refine lv_iinc (v := (x5 + 1)) (lv' := [(5, .int (x5 + 1)), (0, .ref (adV 1)), (3, .int x3), (4, .int x4)]) hx hb dJ1_indexOfChar_4cfef_25 hl (k := 3) rfl rfl (by decide) rfl (fun ls hl => ?_)
        refine lv_goto (tgt := 7) hx hb dJ1_indexOfChar_4cfef_28 (by decide) ?_
        exact ih _ _ _ hf _ _ _ hS (lv_sub hl [1, 2, 3, 0] rfl)
      · have hf := (if_pos c2).symm.trans hf
        refine lv_iload hx hb dJ1_indexOfChar_4cfef_22 (lv_at hl 3 rfl) ?_
        exact ql_riret C0 hf hS dJ1_indexOfChar_4cfef_24
set_option maxHeartbeats 4000000 in
set_option maxRecDepth 100000 in
theorem w_J1_indexOfChar_4cfef_0 {p : Program} {l : Launch} {e : Env} {s : State} {m : MethodId} {args : Array Value} {below : List Frame} {meth : Method} {c : Code} {dC : Nat → ClassId} {dI : Nat → Nat → Nat} {A : Nat → Prop} {adK adV : Nat → Nat} {res : Int32} (C0 : ql_C p s m args meth c cJ1_indexOfChar_4cfef 6 (some .int) wsJ1_indexOfChar_4cfef RJ1 (dC, dI) [] A) (N : Nat) (hE : ql_E adK adV A s s.heap) : ∀ (x1 : Int32) (x2 : Int32) (x3 : Int32), f_J1_indexOfChar_4cfef_0 N x1 x2 x3 = some res → ∀ (H : Heap) (locs : List Loc) (ls : Array Slot), va_S A s.heap H locs → lv_has ls 6 [(0, .ref (adV 1)), (1, .int x1), (2, .int x2), (3, .int x3)] → W p l e rm_J1_indexOfChar_4cfef s m args below meth c H locs 0 0 (ql_Qri below A args s res) (F0 m 0 ls []) := by
  have C0q := C0
  obtain ⟨hx, hb, hr, hml, hown, hts, hlocks, hK, hA⟩ := C0q
  intro x1 x2 x3 hf H locs ls hS hl
  unfold f_J1_indexOfChar_4cfef_0 at hf
  refine lv_iload_n hx hb dJ1_indexOfChar_4cfef_0 rfl (lv_at hl 1 rfl) ?_
  refine lv_i2b hx hb dJ1_indexOfChar_4cfef_1 rfl ?_
  refine lv_istore (lv' := [(4, .int x1.toInt8.toInt32), (0, .ref (adV 1)), (1, .int x1), (2, .int x2), (3, .int x3)]) hx hb dJ1_indexOfChar_4cfef_2 hl (by decide) rfl (fun ls hl => ?_)
  refine lv_iload_n hx hb dJ1_indexOfChar_4cfef_4 rfl (lv_at hl 3 rfl) ?_
  refine lv_istore (lv' := [(5, .int x2), (4, .int x1.toInt8.toInt32), (0, .ref (adV 1)), (1, .int x1), (2, .int x2), (3, .int x3)]) hx hb dJ1_indexOfChar_4cfef_5 hl (by decide) rfl (fun ls hl => ?_)
  exact w_J1_indexOfChar_4cfef_7 C0 N hE N _ _ _ hf _ _ _ hS (lv_sub hl [2, 5, 1, 0] rfl)
set_option maxRecDepth 100000 in
theorem c_J1_indexOfChar_4cfef (l : Launch) (dC : Nat → ClassId) (dI : Nat → Nat → Nat) (adK adV : Nat → Nat) (N : Nat) (x1 : Int32) (x2 : Int32) (x3 : Int32) (res : Int32) (hf : f_J1_indexOfChar_4cfef N x1 x2 x3 = some res) : ql_RiE adK adV l yJ1_indexOfChar_4cfef wsJ1_indexOfChar_4cfef rm_J1_indexOfChar_4cfef (dC, dI) [] ([]) [.ref (adV 1), .int x1, .int x2, .int x3] res :=
  ql_start_riE (by decide) rfl (Nat.le_of_ble_eq_true rfl) (fun p e s m below meth c A ls C0 hl hP hS hE => w_J1_indexOfChar_4cfef_0 C0 N hE x1 x2 x3 hf s.heap [] ls hS (lv_sub (show lv_has ls 6 [(0, .ref (adV 1)), (1, .int x1), (2, .int x2), (3, .int x3)] from hl) [0, 1, 2, 3] rfl))
/-! ===== java/lang/StringLatin1.indexOf([BIII)I ===== -/
abbrev rm_J1_indexOf_4cfef : Room := { frames := 1, cells := 0, slots := 0, locals := 25 }
theorem qd_J1_indexOf_4cfef : yJ1_indexOf_4cfef.cls ≠ "java/lang/invoke/MethodHandle" ∧ yJ1_indexOf_4cfef.cls ≠ "java/lang/invoke/VarHandle" ∧ (parseMethodDescriptor yJ1_indexOf_4cfef.desc).map (fun d => d.parameters.length) = some 4 := by decide +kernel
def f_J1_indexOf_4cfef_0 (N : Nat) (x1 : Int32) (x2 : Int32) (x3 : Int32) : Option (Int32) := (f_J1_canEncode_9a6ad N x1).bind fun u1 => if u1 = 0 then some (-1) else if (if x2 < 0 then 0 else x2) < (if 8 < x3 then 8 else x3) then (f_J1_indexOfChar_4cfef N x1 (if x2 < 0 then 0 else x2) (if 8 < x3 then 8 else x3)).bind fun u4 => some u4 else some (-1)
def f_J1_indexOf_4cfef (N : Nat) (x1 : Int32) (x2 : Int32) (x3 : Int32) : Option (Int32) := f_J1_indexOf_4cfef_0 N x1 x2 x3
set_option maxHeartbeats 4000000 in
set_option maxRecDepth 100000 in
theorem w_J1_indexOf_4cfef_0 {p : Program} {l : Launch} {e : Env} {s : State} {m : MethodId} {args : Array Value} {below : List Frame} {meth : Method} {c : Code} {dC : Nat → ClassId} {dI : Nat → Nat → Nat} {A : Nat → Prop} {adK adV : Nat → Nat} {res : Int32} (C0 : ql_C p s m args meth c cJ1_indexOf_4cfef 4 (some .int) wsJ1_indexOf_4cfef RJ1 (dC, dI) [] A) (N : Nat) (hE : ql_E adK adV A s s.heap) : ∀ (x1 : Int32) (x2 : Int32) (x3 : Int32), f_J1_indexOf_4cfef_0 N x1 x2 x3 = some res → ∀ (H : Heap) (locs : List Loc) (ls : Array Slot), va_S A s.heap H locs → lv_has ls 4 [(0, .ref (adV 1)), (1, .int x1), (2, .int x2), (3, .int x3)] → W p l e rm_J1_indexOf_4cfef s m args below meth c H locs 0 0 (ql_Qri below A args s res) (F0 m 0 ls []) := by
  have C0q := C0
  obtain ⟨hx, hb, hr, hml, hown, hts, hlocks, hK, hA⟩ := C0q
  intro x1 x2 x3 hf H locs ls hS hl
  unfold f_J1_indexOf_4cfef_0 at hf
  refine lv_iload_n hx hb dJ1_indexOf_4cfef_0 rfl (lv_at hl 1 rfl) ?_
  obtain ⟨u1, hu1, hf⟩ := ql_bd hf
  refine ql_callRSiE (As := [.int x1]) (rest := []) C0 hE (c_J1_canEncode_9a6ad l dC dI adK adV N x1 u1 hu1) (va_cwS 1 hts gJ1_indexOf_4cfef_J1_canEncode_9a6ad rfl rfl rfl qd_J1_canEncode_9a6ad ⟨Nat.le_of_ble_eq_true rfl, Nat.le_of_ble_eq_true rfl⟩) (hK.sub [] rfl) ql_nil hS hl.1 rfl rfl (Nat.le_of_ble_eq_true rfl) dJ1_indexOf_4cfef_1 (fun H1 locs hk hS => ?_)
  refine lv_if_ne (tgt := 9) hx hb dJ1_indexOf_4cfef_4 (by decide) (fun c2 => ?_) (fun c2 => ?_)
  · have hf := (if_neg c2).symm.trans hf
    refine lv_iload_n hx hb dJ1_indexOf_4cfef_9 rfl (lv_at hl 2 rfl) ?_
    refine lv_iconst (v := 0) hx hb dJ1_indexOf_4cfef_10 (by decide) ?_
    refine va_mmax hx hb (hml.trans hl.1.symm) hown (hts (.methodLink RJ1 92 Lib.Math.max.name) (by decide +kernel)) (hts (.static Lib.Math.max.name) (by decide +kernel)) (hts (.initialized "java/lang/Math") (by decide +kernel)) (hts (.code Lib.Math.max.name Lib.Math.max.code 2 (some .int)) (by decide +kernel)) (Nat.le_of_ble_eq_true rfl) (Nat.le_of_ble_eq_true rfl) (Nat.zero_le _) (Nat.zero_le _) dJ1_indexOf_4cfef_11 ?_
    refine lv_istore_n (lv' := [(2, .int (if x2 < 0 then 0 else x2)), (0, .ref (adV 1)), (1, .int x1), (3, .int x3)]) hx hb dJ1_indexOf_4cfef_14 rfl hl (by decide) rfl (fun ls hl => ?_)
    refine lv_iload_n hx hb dJ1_indexOf_4cfef_15 rfl (lv_at hl 3 rfl) ?_
    refine lv_aload_n hx hb dJ1_indexOf_4cfef_16 rfl (lv_at hl 1 rfl) ?_
    refine va_tlen hx hb (hE.2.2.1.1 1 (by decide)).2.2.2 hS (v := 8) (show Int32.ofNat (ql_len.getD 1 0) = 8 by decide) dJ1_indexOf_4cfef_17 ?_
    refine va_mmin hx hb (hml.trans hl.1.symm) hown (hts (.methodLink RJ1 38 Lib.Math.min.name) (by decide +kernel)) (hts (.static Lib.Math.min.name) (by decide +kernel)) (hts (.initialized "java/lang/Math") (by decide +kernel)) (hts (.code Lib.Math.min.name Lib.Math.min.code 2 (some .int)) (by decide +kernel)) (Nat.le_of_ble_eq_true rfl) (Nat.le_of_ble_eq_true rfl) (Nat.zero_le _) (Nat.zero_le _) dJ1_indexOf_4cfef_18 ?_
    refine lv_istore_n (lv' := [(3, .int (if 8 < x3 then 8 else x3)), (2, .int (if x2 < 0 then 0 else x2)), (0, .ref (adV 1)), (1, .int x1)]) hx hb dJ1_indexOf_4cfef_21 rfl hl (by decide) rfl (fun ls hl => ?_)
    refine lv_iload_n hx hb dJ1_indexOf_4cfef_22 rfl (lv_at hl 1 rfl) ?_
    refine lv_iload_n hx hb dJ1_indexOf_4cfef_23 rfl (lv_at hl 0 rfl) ?_
    refine lv_icmp_lt (tgt := 29) hx hb dJ1_indexOf_4cfef_24 (by decide) (fun c3 => ?_) (fun c3 => ?_)
    · have hf := (if_pos c3).symm.trans hf
      refine lv_aload_n hx hb dJ1_indexOf_4cfef_29 rfl (lv_at hl 2 rfl) ?_
      refine lv_iload_n hx hb dJ1_indexOf_4cfef_30 rfl (lv_at hl 3 rfl) ?_
      refine lv_iload_n hx hb dJ1_indexOf_4cfef_31 rfl (lv_at hl 1 rfl) ?_
      refine lv_iload_n hx hb dJ1_indexOf_4cfef_32 rfl (lv_at hl 0 rfl) ?_
      obtain ⟨u4, hu4, hf⟩ := ql_bd hf
      refine ql_callRSiE (As := [.ref (adV 1), .int x1, .int (if x2 < 0 then 0 else x2), .int (if 8 < x3 then 8 else x3)]) (rest := []) C0 hE (c_J1_indexOfChar_4cfef l dC dI adK adV N x1 (if x2 < 0 then 0 else x2) (if 8 < x3 then 8 else x3) u4 hu4) (va_cwS 4 hts gJ1_indexOf_4cfef_J1_indexOfChar_4cfef rfl rfl rfl qd_J1_indexOfChar_4cfef ⟨Nat.le_of_ble_eq_true rfl, Nat.le_of_ble_eq_true rfl⟩) (hK.sub [] rfl) ql_nil hS hl.1 rfl rfl (Nat.le_of_ble_eq_true rfl) dJ1_indexOf_4cfef_33 (fun H1 locs hk hS => ?_)
      exact ql_riret C0 hf hS dJ1_indexOf_4cfef_36
    · have hf := (if_neg c3).symm.trans hf
      refine lv_iconst (v := (-1)) hx hb dJ1_indexOf_4cfef_27 (by decide) ?_
      exact ql_riret C0 hf hS dJ1_indexOf_4cfef_28
  · have hf := (if_pos c2).symm.trans hf
    refine lv_iconst (v := (-1)) hx hb dJ1_indexOf_4cfef_7 (by decide) ?_
    exact ql_riret C0 hf hS dJ1_indexOf_4cfef_8
set_option maxRecDepth 100000 in
theorem c_J1_indexOf_4cfef (l : Launch) (dC : Nat → ClassId) (dI : Nat → Nat → Nat) (adK adV : Nat → Nat) (N : Nat) (x1 : Int32) (x2 : Int32) (x3 : Int32) (res : Int32) (hf : f_J1_indexOf_4cfef N x1 x2 x3 = some res) : ql_RiE adK adV l yJ1_indexOf_4cfef wsJ1_indexOf_4cfef rm_J1_indexOf_4cfef (dC, dI) [] ([]) [.ref (adV 1), .int x1, .int x2, .int x3] res :=
  ql_start_riE (by decide) rfl (Nat.le_of_ble_eq_true rfl) (fun p e s m below meth c A ls C0 hl hP hS hE => w_J1_indexOf_4cfef_0 C0 N hE x1 x2 x3 hf s.heap [] ls hS (lv_sub (show lv_has ls 4 [(0, .ref (adV 1)), (1, .int x1), (2, .int x2), (3, .int x3)] from hl) [0, 1, 2, 3] rfl))
/-! ===== java/lang/String.indexOf(II)I ===== -/
abbrev rm_J0_indexOf_7cf53 : Room := { frames := 2, cells := 0, slots := 0, locals := 48 }
theorem qv_J0_indexOf_7cf53 : yJ0_indexOf_7cf53.cls = RJ0 ∧ yJ0_indexOf_7cf53.cls ≠ "java/lang/invoke/MethodHandle" ∧ yJ0_indexOf_7cf53.cls ≠ "java/lang/invoke/VarHandle" ∧ (parseMethodDescriptor yJ0_indexOf_7cf53.desc).map (fun d => d.parameters.length) = some 2 := by decide +kernel
def f_J0_indexOf_7cf53_0 (N : Nat) (x1 : Int32) (x2 : Int32) : Option (Int32) := (f_J0_isLatin1_aae02s N).bind fun u1 => if u1 = 0 then none else (f_J0_length_8abf5 N).bind fun u3 => (f_J1_indexOf_4cfef N x1 x2 u3).bind fun u4 => some u4
def f_J0_indexOf_7cf53 (N : Nat) (x1 : Int32) (x2 : Int32) : Option (Int32) := f_J0_indexOf_7cf53_0 N x1 x2
set_option maxHeartbeats 4000000 in
set_option maxRecDepth 100000 in
theorem w_J0_indexOf_7cf53_0 {p : Program} {l : Launch} {e : Env} {s : State} {m : MethodId} {args : Array Value} {below : List Frame} {meth : Method} {c : Code} {dC : Nat → ClassId} {dI : Nat → Nat → Nat} {A : Nat → Prop} {adK adV : Nat → Nat} {res : Int32} (C0 : ql_C p s m args meth c cJ0_indexOf_7cf53 3 (some .int) wsJ0_indexOf_7cf53 RJ0 (dC, dI) [] A) (N : Nat) (hE : ql_E adK adV A s s.heap) : ∀ (x1 : Int32) (x2 : Int32), f_J0_indexOf_7cf53_0 N x1 x2 = some res → ∀ (H : Heap) (locs : List Loc) (ls : Array Slot), va_S A s.heap H locs → lv_has ls 3 [(0, .ref (adK 1)), (1, .int x1), (2, .int x2)] → W p l e rm_J0_indexOf_7cf53 s m args below meth c H locs 0 0 (ql_Qri below A args s res) (F0 m 0 ls []) := by
  have C0q := C0
  obtain ⟨hx, hb, hr, hml, hown, hts, hlocks, hK, hA⟩ := C0q
  have fl9 := hts (Cond.fieldLink RJ0 9 "java/lang/String" "value" "[B") (by decide +kernel)
  intro x1 x2 hf H locs ls hS hl
  unfold f_J0_indexOf_7cf53_0 at hf
  refine lv_aload_n hx hb dJ0_indexOf_7cf53_0 rfl (lv_at hl 0 rfl) ?_
  obtain ⟨u1, hu1, hf⟩ := ql_bd hf
  refine ql_callRViE (As := []) (rest := []) C0 hE (c_J0_isLatin1_aae02s l dC dI adK adV N u1 hu1) (cwV 0 hts gJ0_indexOf_7cf53_J0_isLatin1_aae02 rfl rfl rfl qv_J0_isLatin1_aae02 ⟨Nat.le_of_ble_eq_true rfl, Nat.le_of_ble_eq_true rfl⟩) (vk_recv (i := 1) hE.2.2.1 (by decide) hS) (hK.sub [] rfl) ql_nil hS hl.1 rfl rfl (Nat.le_of_ble_eq_true rfl) dJ0_indexOf_7cf53_1 (fun H1 locs hk hS => ?_)
  refine lv_if_eq (tgt := 23) hx hb dJ0_indexOf_7cf53_4 (by decide) (fun c2 => ?_) (fun c2 => ?_)
  · have hf := (if_pos c2).symm.trans hf
    cases hf
  · have hf := (if_neg c2).symm.trans hf
    refine lv_aload_n hx hb dJ0_indexOf_7cf53_7 rfl (lv_at hl 0 rfl) ?_
    refine vk_getf hx hb (hE.2.2.1.1 1 (by decide)).2.2.1 hS hown fl9 (fun _ h9 => h9) dJ0_indexOf_7cf53_8 ?_
    refine lv_iload_n hx hb dJ0_indexOf_7cf53_11 rfl (lv_at hl 1 rfl) ?_
    refine lv_iload_n hx hb dJ0_indexOf_7cf53_12 rfl (lv_at hl 2 rfl) ?_
    refine lv_aload_n hx hb dJ0_indexOf_7cf53_13 rfl (lv_at hl 0 rfl) ?_
    obtain ⟨u3, hu3, hf⟩ := ql_bd hf
    refine ql_callRViE (As := []) (rest := [.int x2, .int x1, .ref (adV 1)]) C0 hE (c_J0_length_8abf5 l dC dI adK adV N u3 hu3) (cwV 0 hts gJ0_indexOf_7cf53_J0_length_8abf5 rfl rfl rfl qv_J0_length_8abf5 ⟨Nat.le_of_ble_eq_true rfl, Nat.le_of_ble_eq_true rfl⟩) (vk_recv (i := 1) hE.2.2.1 (by decide) hS) (hK.sub [] rfl) ql_nil hS hl.1 rfl rfl (Nat.le_of_ble_eq_true rfl) dJ0_indexOf_7cf53_14 (fun H1 locs hk hS => ?_)
    obtain ⟨u4, hu4, hf⟩ := ql_bd hf
    refine ql_callRSiE (As := [.ref (adV 1), .int x1, .int x2, .int u3]) (rest := []) C0 hE (c_J1_indexOf_4cfef l dC dI adK adV N x1 x2 u3 u4 hu4) (va_cwS 4 hts gJ0_indexOf_7cf53_J1_indexOf_4cfef rfl rfl rfl qd_J1_indexOf_4cfef ⟨Nat.le_of_ble_eq_true rfl, Nat.le_of_ble_eq_true rfl⟩) (hK.sub [] rfl) ql_nil hS hl.1 rfl rfl (Nat.le_of_ble_eq_true rfl) dJ0_indexOf_7cf53_17 (fun H1 locs hk hS => ?_)
    refine lv_goto (tgt := 36) hx hb dJ0_indexOf_7cf53_20 (by decide) ?_
    exact ql_riret C0 hf hS dJ0_indexOf_7cf53_36
set_option maxRecDepth 100000 in
theorem c_J0_indexOf_7cf53 (l : Launch) (dC : Nat → ClassId) (dI : Nat → Nat → Nat) (adK adV : Nat → Nat) (N : Nat) (x1 : Int32) (x2 : Int32) (res : Int32) (hf : f_J0_indexOf_7cf53 N x1 x2 = some res) : ql_RiE adK adV l yJ0_indexOf_7cf53 wsJ0_indexOf_7cf53 rm_J0_indexOf_7cf53 (dC, dI) [] ([]) [.ref (adK 1), .int x1, .int x2] res :=
  ql_start_riE (by decide) rfl (Nat.le_of_ble_eq_true rfl) (fun p e s m below meth c A ls C0 hl hP hS hE => w_J0_indexOf_7cf53_0 C0 N hE x1 x2 hf s.heap [] ls hS (lv_sub (show lv_has ls 3 [(0, .ref (adK 1)), (1, .int x1), (2, .int x2)] from hl) [0, 1, 2] rfl))
/-! ===== java/lang/String.indexOf(I)I ===== -/
abbrev rm_J0_indexOf_0f7a4 : Room := { frames := 3, cells := 0, slots := 0, locals := 70 }
theorem qv_J0_indexOf_0f7a4 : yJ0_indexOf_0f7a4.cls = RJ0 ∧ yJ0_indexOf_0f7a4.cls ≠ "java/lang/invoke/MethodHandle" ∧ yJ0_indexOf_0f7a4.cls ≠ "java/lang/invoke/VarHandle" ∧ (parseMethodDescriptor yJ0_indexOf_0f7a4.desc).map (fun d => d.parameters.length) = some 1 := by decide +kernel
def f_J0_indexOf_0f7a4_0 (N : Nat) (x1 : Int32) : Option (Int32) := (f_J0_indexOf_7cf53 N x1 0).bind fun u1 => some u1
def f_J0_indexOf_0f7a4 (N : Nat) (x1 : Int32) : Option (Int32) := f_J0_indexOf_0f7a4_0 N x1
set_option maxHeartbeats 4000000 in
set_option maxRecDepth 100000 in
theorem w_J0_indexOf_0f7a4_0 {p : Program} {l : Launch} {e : Env} {s : State} {m : MethodId} {args : Array Value} {below : List Frame} {meth : Method} {c : Code} {dC : Nat → ClassId} {dI : Nat → Nat → Nat} {A : Nat → Prop} {adK adV : Nat → Nat} {res : Int32} (C0 : ql_C p s m args meth c cJ0_indexOf_0f7a4 2 (some .int) wsJ0_indexOf_0f7a4 RJ0 (dC, dI) [] A) (N : Nat) (hE : ql_E adK adV A s s.heap) : ∀ (x1 : Int32), f_J0_indexOf_0f7a4_0 N x1 = some res → ∀ (H : Heap) (locs : List Loc) (ls : Array Slot), va_S A s.heap H locs → lv_has ls 2 [(0, .ref (adK 1)), (1, .int x1)] → W p l e rm_J0_indexOf_0f7a4 s m args below meth c H locs 0 0 (ql_Qri below A args s res) (F0 m 0 ls []) := by
  have C0q := C0
  obtain ⟨hx, hb, hr, hml, hown, hts, hlocks, hK, hA⟩ := C0q
  intro x1 hf H locs ls hS hl
  unfold f_J0_indexOf_0f7a4_0 at hf
  refine lv_aload_n hx hb dJ0_indexOf_0f7a4_0 rfl (lv_at hl 0 rfl) ?_
  refine lv_iload_n hx hb dJ0_indexOf_0f7a4_1 rfl (lv_at hl 1 rfl) ?_
  refine lv_iconst (v := 0) hx hb dJ0_indexOf_0f7a4_2 (by decide) ?_
  obtain ⟨u1, hu1, hf⟩ := ql_bd hf
  refine ql_callRViE (As := [.int x1, .int 0]) (rest := []) C0 hE (c_J0_indexOf_7cf53 l dC dI adK adV N x1 0 u1 hu1) (cwV 2 hts gJ0_indexOf_0f7a4_J0_indexOf_7cf53 rfl rfl rfl qv_J0_indexOf_7cf53 ⟨Nat.le_of_ble_eq_true rfl, Nat.le_of_ble_eq_true rfl⟩) (vk_recv (i := 1) hE.2.2.1 (by decide) hS) (hK.sub [] rfl) ql_nil hS hl.1 rfl rfl (Nat.le_of_ble_eq_true rfl) dJ0_indexOf_0f7a4_3 (fun H1 locs hk hS => ?_)
  exact ql_riret C0 hf hS dJ0_indexOf_0f7a4_6
set_option maxRecDepth 100000 in
theorem c_J0_indexOf_0f7a4 (l : Launch) (dC : Nat → ClassId) (dI : Nat → Nat → Nat) (adK adV : Nat → Nat) (N : Nat) (x1 : Int32) (res : Int32) (hf : f_J0_indexOf_0f7a4 N x1 = some res) : ql_RiE adK adV l yJ0_indexOf_0f7a4 wsJ0_indexOf_0f7a4 rm_J0_indexOf_0f7a4 (dC, dI) [] ([]) [.ref (adK 1), .int x1] res :=
  ql_start_riE (by decide) rfl (Nat.le_of_ble_eq_true rfl) (fun p e s m below meth c A ls C0 hl hP hS hE => w_J0_indexOf_0f7a4_0 C0 N hE x1 hf s.heap [] ls hS (lv_sub (show lv_has ls 2 [(0, .ref (adK 1)), (1, .int x1)] from hl) [0, 1] rfl))
