def ql_tw (aT : Nat) (z : ql_Lt) : va_W := [(aT, .inr (8, [.long (z 0 0)]))]
def ql_kw (k aT ci : Nat) (z : ql_Lt) : va_W := [(k, .inr (ci, [])), (aT, .inr (8, [.long (z 0 0)]))]
def ql_no (is : List Nat) (w : va_W) : va_W := is.filterMap (fun i => w[i]?)
/-! ===== TestedLoops$Part.weigh(ILTestedLoops$Trace;)I ===== -/
abbrev rm_X5_weigh : Room := { frames := 0, cells := 0, slots := 0, locals := 0 }
theorem iw_X5_weigh_X8 : ∀ w ∈ wsX80, w ∈ wsX5_weigh := fun w h => List.mem_cons_of_mem _ (List.mem_append_right _ h)
theorem qv_X5_weigh : yX5_weigh.cls = RX5 ∧ yX5_weigh.cls ≠ "java/lang/invoke/MethodHandle" ∧ yX5_weigh.cls ≠ "java/lang/invoke/VarHandle" ∧ (parseMethodDescriptor yX5_weigh.desc).map (fun d => d.parameters.length) = some 2 := by decide +kernel
def f_X5_weigh_0 (N : Nat) (z : ql_Lt) : Option (Int32 × ql_Lt) := some (1, (ql_uq z 0 (fun _ => ((z 0 0) + 1))))
def f_X5_weigh (N : Nat) (z : ql_Lt) (x1 : Int32) : Option (Int32 × ql_Lt) := f_X5_weigh_0 N z
set_option maxHeartbeats 4000000 in
set_option maxRecDepth 100000 in
theorem w_X5_weigh_0 {p : Program} {l : Launch} {e : Env} {s : State} {m : MethodId} {args : Array Value} {below : List Frame} {meth : Method} {c : Code} {dC : Nat → ClassId} {dI : Nat → Nat → Nat} {A : Nat → Prop} {k aT : Nat} {res : Int32 × ql_Lt} (C0 : ql_C p s m args meth c cX5_weigh 3 (some .int) wsX5_weigh RX5 (dC, dI) [] A) (N : Nat) : ∀ (z : ql_Lt), f_X5_weigh_0 N z = some res → ∀ (H : Heap) (locs : List Loc) (ls : Array Slot), va_P (dC, dI) vwCl ((ql_tw aT) z) H → va_D A ((ql_tw aT) z) → va_S A s.heap H locs → lv_has ls 3 [(0, .ref k), (2, .ref aT)] → W p l e rm_X5_weigh s m args below meth c H locs 0 0 (ql_Qi below (dC, dI) (ql_tw aT) A args s res) (F0 m 0 ls []) := by
  have C0q := C0
  obtain ⟨hx, hb, hr, hml, hown, hts, hlocks, hK, hA⟩ := C0q
  have fl7 := hts (Cond.fieldLink RX5 7 "TestedLoops$Trace" "sum" "J") (by decide +kernel)
  intro z hf H locs ls hP hD hS hl
  unfold f_X5_weigh_0 at hf
  refine lv_aload_n hx hb dX5_weigh_0 rfl (lv_at hl 1 rfl) ?_
  refine lv_dup hx hb dX5_weigh_1 rfl ?_
  refine va_get (D := (dC, dI)) (ci := 8) (v := .long (z 0 0)) (C := RX8) (T := TX8) (N := 1) hx hb hts iw_X5_weigh_X8 hown hK.1 hP 0 rfl rfl 0 (by decide) fl7 (fun _ h9 => h9) rfl dX5_weigh_2 ?_
  refine lv_lconst (v := 1) hx hb dX5_weigh_5 (by decide) ?_
  refine lv_ladd hx hb dX5_weigh_6 ?_
  refine va_put (D := (dC, dI)) (ci := 8) (v := .long ((z 0 0) + 1)) (ty := .long) (C := RX8) (T := TX8) (N := 1) hx hb hts iw_X5_weigh_X8 tyX8 tyX8_ok nmX8 hown hK.1 hP hD hS 0 rfl rfl 0 (by decide) fl7 (fun _ h9 => h9) rfl (by decide +kernel) rfl rfl (Nat.le_of_ble_eq_true rfl) dX5_weigh_7 (fun H locs hP hD hS => ?_)
  refine lv_iconst (v := 1) hx hb dX5_weigh_10 (by decide) ?_
  exact ql_iret C0 hf hP hD hS dX5_weigh_11
set_option maxRecDepth 100000 in
theorem c_X5_weigh (l : Launch) (dC : Nat → ClassId) (dI : Nat → Nat → Nat) (k aT : Nat) (N : Nat) (z : ql_Lt) (x1 : Int32) (res : Int32 × ql_Lt) (hf : f_X5_weigh N z x1 = some res) : ql_Mi l yX5_weigh wsX5_weigh rm_X5_weigh (dC, dI) [] (ql_tw aT) [.ref k, .int x1, .ref aT] z res :=
  ql_start_i (by decide) rfl (Nat.le_of_ble_eq_true rfl) (fun p e s m below meth c A ls C0 hl hP hD hS => w_X5_weigh_0 C0 N z hf s.heap [] ls hP hD hS (lv_sub (show lv_has ls 3 [(0, .ref k), (1, .int x1), (2, .ref aT)] from hl) [0, 2] rfl))
/-! ===== TestedLoops$Act.weigh(ILTestedLoops$Trace;)I ===== -/
abbrev rm_X0_weigh : Room := { frames := 1, cells := 0, slots := 0, locals := 22 }
theorem iw_X0_weigh_X8 : ∀ w ∈ wsX80, w ∈ wsX0_weigh := fun w h => List.mem_cons_of_mem _ (List.mem_append_right _ h)
theorem qv_X0_weigh : yX0_weigh.cls = RX0 ∧ yX0_weigh.cls ≠ "java/lang/invoke/MethodHandle" ∧ yX0_weigh.cls ≠ "java/lang/invoke/VarHandle" ∧ (parseMethodDescriptor yX0_weigh.desc).map (fun d => d.parameters.length) = some 2 := by decide +kernel
def f_X0_weigh_0 (N : Nat) (z : ql_Lt) (x1 : Int32) : Option (Int32 × ql_Lt) := (f_X5_weigh N (ql_uq z 0 (fun _ => ((z 0 0) + 10))) x1).bind fun u1 => some ((u1.1 + x1), u1.2)
def f_X0_weigh (N : Nat) (z : ql_Lt) (x1 : Int32) : Option (Int32 × ql_Lt) := f_X0_weigh_0 N z x1
set_option maxHeartbeats 4000000 in
set_option maxRecDepth 100000 in
theorem w_X0_weigh_0 {p : Program} {l : Launch} {e : Env} {s : State} {m : MethodId} {args : Array Value} {below : List Frame} {meth : Method} {c : Code} {dC : Nat → ClassId} {dI : Nat → Nat → Nat} {A : Nat → Prop} {k aT ci : Nat} {Cn : String} {Tn : u_T} {res : Int32 × ql_Lt} (C0 : ql_C p s m args meth c cX0_weigh 3 (some .int) wsX0_weigh RX0 (dC, dI) [] A) (N : Nat) (hc : vwCl[ci]? = some (Cn, Tn, 0)) : ∀ (z : ql_Lt) (x1 : Int32), f_X0_weigh_0 N z x1 = some res → ∀ (H : Heap) (locs : List Loc) (ls : Array Slot), va_P (dC, dI) vwCl ((ql_kw k aT ci) z) H → va_D A ((ql_kw k aT ci) z) → va_S A s.heap H locs → lv_has ls 3 [(0, .ref k), (1, .int x1), (2, .ref aT)] → W p l e rm_X0_weigh s m args below meth c H locs 0 0 (ql_Qi below (dC, dI) (ql_kw k aT ci) A args s res) (F0 m 0 ls []) := by
  have C0q := C0
  obtain ⟨hx, hb, hr, hml, hown, hts, hlocks, hK, hA⟩ := C0q
  have fl7 := hts (Cond.fieldLink RX0 7 "TestedLoops$Trace" "sum" "J") (by decide +kernel)
  have fl13 := hts (Cond.constantLong RX0 13 (10)) (by decide +kernel)
  intro z x1 hf H locs ls hP hD hS hl
  unfold f_X0_weigh_0 at hf
  refine lv_aload_n hx hb dX0_weigh_0 rfl (lv_at hl 2 rfl) ?_
  refine lv_dup hx hb dX0_weigh_1 rfl ?_
  refine va_get (D := (dC, dI)) (ci := 8) (v := .long (z 0 0)) (C := RX8) (T := TX8) (N := 1) hx hb hts iw_X0_weigh_X8 hown hK.1 hP 1 rfl rfl 0 (by decide) fl7 (fun _ h9 => h9) rfl dX0_weigh_2 ?_
  refine lv_ldc2 hx hb hown fl13 dX0_weigh_5 ?_
  refine lv_ladd hx hb dX0_weigh_8 ?_
  refine va_put (D := (dC, dI)) (ci := 8) (v := .long ((z 0 0) + 10)) (ty := .long) (C := RX8) (T := TX8) (N := 1) hx hb hts iw_X0_weigh_X8 tyX8 tyX8_ok nmX8 hown hK.1 hP hD hS 1 rfl rfl 0 (by decide) fl7 (fun _ h9 => h9) rfl (by decide +kernel) rfl rfl (Nat.le_of_ble_eq_true rfl) dX0_weigh_9 (fun H locs hP hD hS => ?_)
  refine lv_aload_n hx hb dX0_weigh_12 rfl (lv_at hl 0 rfl) ?_
  refine lv_iload_n hx hb dX0_weigh_13 rfl (lv_at hl 1 rfl) ?_
  refine lv_aload_n hx hb dX0_weigh_14 rfl (lv_at hl 2 rfl) ?_
  obtain ⟨u1, hu1, hf⟩ := ql_bd hf
  refine ql_superi (wr := [(k, .inr (ci, []))]) (As := [.int x1, .ref aT]) (rest := []) C0 (c_X5_weigh l dC dI k aT N (ql_uq z 0 (fun _ => ((z 0 0) + 10))) x1 u1 hu1) (hK.1.1 ci _ hc).2 (va_cwSU 2 hts gX0_weigh_X5_weigh_s15 rfl rfl rfl (by decide +kernel) ⟨Nat.le_of_ble_eq_true rfl, Nat.le_of_ble_eq_true rfl⟩) (hK.sub [] rfl) [1] [0] rfl rfl rfl rfl (by decide) (va_recv hK.1 hP (ci := ci) (q0 := 0) hc rfl) hP hD hS hl.1 rfl rfl (Nat.le_of_ble_eq_true rfl) dX0_weigh_15 (fun H locs hP hD hS => ?_)
  refine lv_iload_n hx hb dX0_weigh_18 rfl (lv_at hl 1 rfl) ?_
  refine lv_iadd hx hb dX0_weigh_19 ?_
  exact ql_iret C0 hf hP hD hS dX0_weigh_20
set_option maxRecDepth 100000 in
theorem c_X0_weigh (l : Launch) (dC : Nat → ClassId) (dI : Nat → Nat → Nat) (k aT ci : Nat) (Cn : String) (Tn : u_T) (hc : vwCl[ci]? = some (Cn, Tn, 0)) (N : Nat) (z : ql_Lt) (x1 : Int32) (res : Int32 × ql_Lt) (hf : f_X0_weigh N z x1 = some res) : ql_Mi l yX0_weigh wsX0_weigh rm_X0_weigh (dC, dI) [] (ql_kw k aT ci) [.ref k, .int x1, .ref aT] z res :=
  ql_start_i (by decide) rfl (Nat.le_of_ble_eq_true rfl) (fun p e s m below meth c A ls C0 hl hP hD hS => w_X0_weigh_0 C0 N hc z x1 hf s.heap [] ls hP hD hS (lv_sub (show lv_has ls 3 [(0, .ref k), (1, .int x1), (2, .ref aT)] from hl) [0, 1, 2] rfl))
/-! ===== TestedLoops$Choice.weigh(ILTestedLoops$Trace;)I ===== -/
abbrev rm_X1_weigh : Room := { frames := 1, cells := 0, slots := 0, locals := 22 }
theorem iw_X1_weigh_X8 : ∀ w ∈ wsX80, w ∈ wsX1_weigh := fun w h => List.mem_cons_of_mem _ (List.mem_append_right _ h)
theorem qv_X1_weigh : yX1_weigh.cls = RX1 ∧ yX1_weigh.cls ≠ "java/lang/invoke/MethodHandle" ∧ yX1_weigh.cls ≠ "java/lang/invoke/VarHandle" ∧ (parseMethodDescriptor yX1_weigh.desc).map (fun d => d.parameters.length) = some 2 := by decide +kernel
def f_X1_weigh_0 (N : Nat) (z : ql_Lt) (x1 : Int32) : Option (Int32 × ql_Lt) := (f_X5_weigh N (ql_uq z 0 (fun _ => ((z 0 0) + 100))) x1).bind fun u1 => some ((u1.1 + x1), u1.2)
def f_X1_weigh (N : Nat) (z : ql_Lt) (x1 : Int32) : Option (Int32 × ql_Lt) := f_X1_weigh_0 N z x1
set_option maxHeartbeats 4000000 in
set_option maxRecDepth 100000 in
theorem w_X1_weigh_0 {p : Program} {l : Launch} {e : Env} {s : State} {m : MethodId} {args : Array Value} {below : List Frame} {meth : Method} {c : Code} {dC : Nat → ClassId} {dI : Nat → Nat → Nat} {A : Nat → Prop} {k aT ci : Nat} {Cn : String} {Tn : u_T} {res : Int32 × ql_Lt} (C0 : ql_C p s m args meth c cX1_weigh 3 (some .int) wsX1_weigh RX1 (dC, dI) [] A) (N : Nat) (hc : vwCl[ci]? = some (Cn, Tn, 0)) : ∀ (z : ql_Lt) (x1 : Int32), f_X1_weigh_0 N z x1 = some res → ∀ (H : Heap) (locs : List Loc) (ls : Array Slot), va_P (dC, dI) vwCl ((ql_kw k aT ci) z) H → va_D A ((ql_kw k aT ci) z) → va_S A s.heap H locs → lv_has ls 3 [(0, .ref k), (1, .int x1), (2, .ref aT)] → W p l e rm_X1_weigh s m args below meth c H locs 0 0 (ql_Qi below (dC, dI) (ql_kw k aT ci) A args s res) (F0 m 0 ls []) := by
  have C0q := C0
  obtain ⟨hx, hb, hr, hml, hown, hts, hlocks, hK, hA⟩ := C0q
  have fl7 := hts (Cond.fieldLink RX1 7 "TestedLoops$Trace" "sum" "J") (by decide +kernel)
  have fl13 := hts (Cond.constantLong RX1 13 (100)) (by decide +kernel)
  intro z x1 hf H locs ls hP hD hS hl
  unfold f_X1_weigh_0 at hf
  refine lv_aload_n hx hb dX1_weigh_0 rfl (lv_at hl 2 rfl) ?_
  refine lv_dup hx hb dX1_weigh_1 rfl ?_
  refine va_get (D := (dC, dI)) (ci := 8) (v := .long (z 0 0)) (C := RX8) (T := TX8) (N := 1) hx hb hts iw_X1_weigh_X8 hown hK.1 hP 1 rfl rfl 0 (by decide) fl7 (fun _ h9 => h9) rfl dX1_weigh_2 ?_
  refine lv_ldc2 hx hb hown fl13 dX1_weigh_5 ?_
  refine lv_ladd hx hb dX1_weigh_8 ?_
  refine va_put (D := (dC, dI)) (ci := 8) (v := .long ((z 0 0) + 100)) (ty := .long) (C := RX8) (T := TX8) (N := 1) hx hb hts iw_X1_weigh_X8 tyX8 tyX8_ok nmX8 hown hK.1 hP hD hS 1 rfl rfl 0 (by decide) fl7 (fun _ h9 => h9) rfl (by decide +kernel) rfl rfl (Nat.le_of_ble_eq_true rfl) dX1_weigh_9 (fun H locs hP hD hS => ?_)
  refine lv_aload_n hx hb dX1_weigh_12 rfl (lv_at hl 0 rfl) ?_
  refine lv_iload_n hx hb dX1_weigh_13 rfl (lv_at hl 1 rfl) ?_
  refine lv_aload_n hx hb dX1_weigh_14 rfl (lv_at hl 2 rfl) ?_
  obtain ⟨u1, hu1, hf⟩ := ql_bd hf
  refine ql_superi (wr := [(k, .inr (ci, []))]) (As := [.int x1, .ref aT]) (rest := []) C0 (c_X5_weigh l dC dI k aT N (ql_uq z 0 (fun _ => ((z 0 0) + 100))) x1 u1 hu1) (hK.1.1 ci _ hc).2 (va_cwSU 2 hts gX1_weigh_X5_weigh_s15 rfl rfl rfl (by decide +kernel) ⟨Nat.le_of_ble_eq_true rfl, Nat.le_of_ble_eq_true rfl⟩) (hK.sub [] rfl) [1] [0] rfl rfl rfl rfl (by decide) (va_recv hK.1 hP (ci := ci) (q0 := 0) hc rfl) hP hD hS hl.1 rfl rfl (Nat.le_of_ble_eq_true rfl) dX1_weigh_15 (fun H locs hP hD hS => ?_)
  refine lv_iload_n hx hb dX1_weigh_18 rfl (lv_at hl 1 rfl) ?_
  refine lv_iadd hx hb dX1_weigh_19 ?_
  exact ql_iret C0 hf hP hD hS dX1_weigh_20
set_option maxRecDepth 100000 in
theorem c_X1_weigh (l : Launch) (dC : Nat → ClassId) (dI : Nat → Nat → Nat) (k aT ci : Nat) (Cn : String) (Tn : u_T) (hc : vwCl[ci]? = some (Cn, Tn, 0)) (N : Nat) (z : ql_Lt) (x1 : Int32) (res : Int32 × ql_Lt) (hf : f_X1_weigh N z x1 = some res) : ql_Mi l yX1_weigh wsX1_weigh rm_X1_weigh (dC, dI) [] (ql_kw k aT ci) [.ref k, .int x1, .ref aT] z res :=
  ql_start_i (by decide) rfl (Nat.le_of_ble_eq_true rfl) (fun p e s m below meth c A ls C0 hl hP hD hS => w_X1_weigh_0 C0 N hc z x1 hf s.heap [] ls hP hD hS (lv_sub (show lv_has ls 3 [(0, .ref k), (1, .int x1), (2, .ref aT)] from hl) [0, 1, 2] rfl))
/-! ===== TestedLoops$Want.weigh(ILTestedLoops$Trace;)I ===== -/
abbrev rm_X9_weigh : Room := { frames := 1, cells := 0, slots := 0, locals := 22 }
theorem iw_X9_weigh_X8 : ∀ w ∈ wsX80, w ∈ wsX9_weigh := fun w h => List.mem_cons_of_mem _ (List.mem_append_right _ h)
theorem qv_X9_weigh : yX9_weigh.cls = RX9 ∧ yX9_weigh.cls ≠ "java/lang/invoke/MethodHandle" ∧ yX9_weigh.cls ≠ "java/lang/invoke/VarHandle" ∧ (parseMethodDescriptor yX9_weigh.desc).map (fun d => d.parameters.length) = some 2 := by decide +kernel
def f_X9_weigh_0 (N : Nat) (z : ql_Lt) (x1 : Int32) : Option (Int32 × ql_Lt) := (f_X5_weigh N (ql_uq z 0 (fun _ => ((z 0 0) + 10000))) x1).bind fun u1 => some (((u1.1 + 4) - x1), u1.2)
def f_X9_weigh (N : Nat) (z : ql_Lt) (x1 : Int32) : Option (Int32 × ql_Lt) := f_X9_weigh_0 N z x1
set_option maxHeartbeats 4000000 in
set_option maxRecDepth 100000 in
theorem w_X9_weigh_0 {p : Program} {l : Launch} {e : Env} {s : State} {m : MethodId} {args : Array Value} {below : List Frame} {meth : Method} {c : Code} {dC : Nat → ClassId} {dI : Nat → Nat → Nat} {A : Nat → Prop} {k aT ci : Nat} {Cn : String} {Tn : u_T} {res : Int32 × ql_Lt} (C0 : ql_C p s m args meth c cX9_weigh 3 (some .int) wsX9_weigh RX9 (dC, dI) [] A) (N : Nat) (hc : vwCl[ci]? = some (Cn, Tn, 0)) : ∀ (z : ql_Lt) (x1 : Int32), f_X9_weigh_0 N z x1 = some res → ∀ (H : Heap) (locs : List Loc) (ls : Array Slot), va_P (dC, dI) vwCl ((ql_kw k aT ci) z) H → va_D A ((ql_kw k aT ci) z) → va_S A s.heap H locs → lv_has ls 3 [(0, .ref k), (1, .int x1), (2, .ref aT)] → W p l e rm_X9_weigh s m args below meth c H locs 0 0 (ql_Qi below (dC, dI) (ql_kw k aT ci) A args s res) (F0 m 0 ls []) := by
  have C0q := C0
  obtain ⟨hx, hb, hr, hml, hown, hts, hlocks, hK, hA⟩ := C0q
  have fl9 := hts (Cond.fieldLink RX9 9 "TestedLoops$Trace" "sum" "J") (by decide +kernel)
  have fl15 := hts (Cond.constantLong RX9 15 (10000)) (by decide +kernel)
  intro z x1 hf H locs ls hP hD hS hl
  unfold f_X9_weigh_0 at hf
  refine lv_aload_n hx hb dX9_weigh_0 rfl (lv_at hl 2 rfl) ?_
  refine lv_dup hx hb dX9_weigh_1 rfl ?_
  refine va_get (D := (dC, dI)) (ci := 8) (v := .long (z 0 0)) (C := RX8) (T := TX8) (N := 1) hx hb hts iw_X9_weigh_X8 hown hK.1 hP 1 rfl rfl 0 (by decide) fl9 (fun _ h9 => h9) rfl dX9_weigh_2 ?_
  refine lv_ldc2 hx hb hown fl15 dX9_weigh_5 ?_
  refine lv_ladd hx hb dX9_weigh_8 ?_
  refine va_put (D := (dC, dI)) (ci := 8) (v := .long ((z 0 0) + 10000)) (ty := .long) (C := RX8) (T := TX8) (N := 1) hx hb hts iw_X9_weigh_X8 tyX8 tyX8_ok nmX8 hown hK.1 hP hD hS 1 rfl rfl 0 (by decide) fl9 (fun _ h9 => h9) rfl (by decide +kernel) rfl rfl (Nat.le_of_ble_eq_true rfl) dX9_weigh_9 (fun H locs hP hD hS => ?_)
  refine lv_aload_n hx hb dX9_weigh_12 rfl (lv_at hl 0 rfl) ?_
  refine lv_iload_n hx hb dX9_weigh_13 rfl (lv_at hl 1 rfl) ?_
  refine lv_aload_n hx hb dX9_weigh_14 rfl (lv_at hl 2 rfl) ?_
  obtain ⟨u1, hu1, hf⟩ := ql_bd hf
  refine ql_superi (wr := [(k, .inr (ci, []))]) (As := [.int x1, .ref aT]) (rest := []) C0 (c_X5_weigh l dC dI k aT N (ql_uq z 0 (fun _ => ((z 0 0) + 10000))) x1 u1 hu1) (hK.1.1 ci _ hc).2 (va_cwSU 2 hts gX9_weigh_X5_weigh_s17 rfl rfl rfl (by decide +kernel) ⟨Nat.le_of_ble_eq_true rfl, Nat.le_of_ble_eq_true rfl⟩) (hK.sub [] rfl) [1] [0] rfl rfl rfl rfl (by decide) (va_recv hK.1 hP (ci := ci) (q0 := 0) hc rfl) hP hD hS hl.1 rfl rfl (Nat.le_of_ble_eq_true rfl) dX9_weigh_15 (fun H locs hP hD hS => ?_)
  refine lv_iconst (v := 4) hx hb dX9_weigh_18 (by decide) ?_
  refine lv_iadd hx hb dX9_weigh_19 ?_
  refine lv_iload_n hx hb dX9_weigh_20 rfl (lv_at hl 1 rfl) ?_
  refine lv_isub hx hb dX9_weigh_21 ?_
  exact ql_iret C0 hf hP hD hS dX9_weigh_22
set_option maxRecDepth 100000 in
theorem c_X9_weigh (l : Launch) (dC : Nat → ClassId) (dI : Nat → Nat → Nat) (k aT ci : Nat) (Cn : String) (Tn : u_T) (hc : vwCl[ci]? = some (Cn, Tn, 0)) (N : Nat) (z : ql_Lt) (x1 : Int32) (res : Int32 × ql_Lt) (hf : f_X9_weigh N z x1 = some res) : ql_Mi l yX9_weigh wsX9_weigh rm_X9_weigh (dC, dI) [] (ql_kw k aT ci) [.ref k, .int x1, .ref aT] z res :=
  ql_start_i (by decide) rfl (Nat.le_of_ble_eq_true rfl) (fun p e s m below meth c A ls C0 hl hP hD hS => w_X9_weigh_0 C0 N hc z x1 hf s.heap [] ls hP hD hS (lv_sub (show lv_has ls 3 [(0, .ref k), (1, .int x1), (2, .ref aT)] from hl) [0, 1, 2] rfl))
/-! ===== TestedLoops$Loop.weigh(ILTestedLoops$Trace;)I ===== -/
abbrev rm_X3_weigh : Room := { frames := 2, cells := 0, slots := 0, locals := 44 }
theorem iw_X3_weigh_X8 : ∀ w ∈ wsX80, w ∈ wsX3_weigh := fun w h => List.mem_cons_of_mem _ (List.mem_append_right _ h)
theorem qv_X3_weigh : yX3_weigh.cls = RX3 ∧ yX3_weigh.cls ≠ "java/lang/invoke/MethodHandle" ∧ yX3_weigh.cls ≠ "java/lang/invoke/VarHandle" ∧ (parseMethodDescriptor yX3_weigh.desc).map (fun d => d.parameters.length) = some 2 := by decide +kernel
def f_X3_weigh_0 (N : Nat) (z : ql_Lt) (x1 : Int32) : Option (Int32 × ql_Lt) := (f_X1_weigh N (ql_uq z 0 (fun _ => ((z 0 0) + 1000))) x1).bind fun u1 => some ((2 * u1.1), u1.2)
def f_X3_weigh (N : Nat) (z : ql_Lt) (x1 : Int32) : Option (Int32 × ql_Lt) := f_X3_weigh_0 N z x1
set_option maxHeartbeats 4000000 in
set_option maxRecDepth 100000 in
theorem w_X3_weigh_0 {p : Program} {l : Launch} {e : Env} {s : State} {m : MethodId} {args : Array Value} {below : List Frame} {meth : Method} {c : Code} {dC : Nat → ClassId} {dI : Nat → Nat → Nat} {A : Nat → Prop} {k aT ci : Nat} {Cn : String} {Tn : u_T} {res : Int32 × ql_Lt} (C0 : ql_C p s m args meth c cX3_weigh 3 (some .int) wsX3_weigh RX3 (dC, dI) [] A) (N : Nat) (hc : vwCl[ci]? = some (Cn, Tn, 0)) : ∀ (z : ql_Lt) (x1 : Int32), f_X3_weigh_0 N z x1 = some res → ∀ (H : Heap) (locs : List Loc) (ls : Array Slot), va_P (dC, dI) vwCl ((ql_kw k aT ci) z) H → va_D A ((ql_kw k aT ci) z) → va_S A s.heap H locs → lv_has ls 3 [(0, .ref k), (1, .int x1), (2, .ref aT)] → W p l e rm_X3_weigh s m args below meth c H locs 0 0 (ql_Qi below (dC, dI) (ql_kw k aT ci) A args s res) (F0 m 0 ls []) := by
  have C0q := C0
  obtain ⟨hx, hb, hr, hml, hown, hts, hlocks, hK, hA⟩ := C0q
  have fl7 := hts (Cond.fieldLink RX3 7 "TestedLoops$Trace" "sum" "J") (by decide +kernel)
  have fl13 := hts (Cond.constantLong RX3 13 (1000)) (by decide +kernel)
  intro z x1 hf H locs ls hP hD hS hl
  unfold f_X3_weigh_0 at hf
  refine lv_aload_n hx hb dX3_weigh_0 rfl (lv_at hl 2 rfl) ?_
  refine lv_dup hx hb dX3_weigh_1 rfl ?_
  refine va_get (D := (dC, dI)) (ci := 8) (v := .long (z 0 0)) (C := RX8) (T := TX8) (N := 1) hx hb hts iw_X3_weigh_X8 hown hK.1 hP 1 rfl rfl 0 (by decide) fl7 (fun _ h9 => h9) rfl dX3_weigh_2 ?_
  refine lv_ldc2 hx hb hown fl13 dX3_weigh_5 ?_
  refine lv_ladd hx hb dX3_weigh_8 ?_
  refine va_put (D := (dC, dI)) (ci := 8) (v := .long ((z 0 0) + 1000)) (ty := .long) (C := RX8) (T := TX8) (N := 1) hx hb hts iw_X3_weigh_X8 tyX8 tyX8_ok nmX8 hown hK.1 hP hD hS 1 rfl rfl 0 (by decide) fl7 (fun _ h9 => h9) rfl (by decide +kernel) rfl rfl (Nat.le_of_ble_eq_true rfl) dX3_weigh_9 (fun H locs hP hD hS => ?_)
  refine lv_iconst (v := 2) hx hb dX3_weigh_12 (by decide) ?_
  refine lv_aload_n hx hb dX3_weigh_13 rfl (lv_at hl 0 rfl) ?_
  refine lv_iload_n hx hb dX3_weigh_14 rfl (lv_at hl 1 rfl) ?_
  refine lv_aload_n hx hb dX3_weigh_15 rfl (lv_at hl 2 rfl) ?_
  obtain ⟨u1, hu1, hf⟩ := ql_bd hf
  refine ql_superi (wr := []) (As := [.int x1, .ref aT]) (rest := [.int 2]) C0 (c_X1_weigh l dC dI k aT ci Cn Tn hc N (ql_uq z 0 (fun _ => ((z 0 0) + 1000))) x1 u1 hu1) (hK.1.1 ci _ hc).2 (va_cwSU 2 hts gX3_weigh_X1_weigh_s15 rfl rfl rfl (by decide +kernel) ⟨Nat.le_of_ble_eq_true rfl, Nat.le_of_ble_eq_true rfl⟩) (hK.sub [] rfl) [0, 1] [] rfl rfl rfl rfl (by decide) (va_recv hK.1 hP (ci := ci) (q0 := 0) hc rfl) hP hD hS hl.1 rfl rfl (Nat.le_of_ble_eq_true rfl) dX3_weigh_16 (fun H locs hP hD hS => ?_)
  refine lv_imul hx hb dX3_weigh_19 ?_
  exact ql_iret C0 hf hP hD hS dX3_weigh_20
set_option maxRecDepth 100000 in
theorem c_X3_weigh (l : Launch) (dC : Nat → ClassId) (dI : Nat → Nat → Nat) (k aT ci : Nat) (Cn : String) (Tn : u_T) (hc : vwCl[ci]? = some (Cn, Tn, 0)) (N : Nat) (z : ql_Lt) (x1 : Int32) (res : Int32 × ql_Lt) (hf : f_X3_weigh N z x1 = some res) : ql_Mi l yX3_weigh wsX3_weigh rm_X3_weigh (dC, dI) [] (ql_kw k aT ci) [.ref k, .int x1, .ref aT] z res :=
  ql_start_i (by decide) rfl (Nat.le_of_ble_eq_true rfl) (fun p e s m below meth c A ls C0 hl hP hD hS => w_X3_weigh_0 C0 N hc z x1 hf s.heap [] ls hP hD hS (lv_sub (show lv_has ls 3 [(0, .ref k), (1, .int x1), (2, .ref aT)] from hl) [0, 1, 2] rfl))
