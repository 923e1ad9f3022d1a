/-! ===== TestedLoopsModel.puts(III)I ===== -/
abbrev rm_X11_puts : Room := { frames := 0, cells := 0, slots := 0, locals := 0 }
theorem iw_X11_puts_X11 : ∀ w ∈ wsX110, w ∈ wsX11_puts := fun w h => List.mem_cons_of_mem _ (List.mem_append_right _ h)
theorem qv_X11_puts : yX11_puts.cls = RX11 ∧ yX11_puts.cls ≠ "java/lang/invoke/MethodHandle" ∧ yX11_puts.cls ≠ "java/lang/invoke/VarHandle" ∧ (parseMethodDescriptor yX11_puts.desc).map (fun d => d.parameters.length) = some 3 := by decide +kernel
def f_X11_puts_0 (N : Nat) (z : ql_Z) (x1 : Int32) (x2 : Int32) (x3 : Int32) : Option (Int32 × ql_Z) := if ql_ib (1600 + ((z.1 6) 4)) 2000 = true then if ql_ib (1600 + ((z.1 6) 4)) 2000 = true then if ql_ib (1600 + ((z.1 6) 4)) 2000 = true then some ((((upd (z.1 6) 4 (((z.1 6) 4) + 1)) 4) - 1), ((ql_up (ql_up (ql_up (ql_up z.1 3 (upd (z.1 3) ((1600 + ((z.1 6) 4)).toNatClampNeg) x1)) 4 (upd (z.1 4) ((1600 + ((z.1 6) 4)).toNatClampNeg) x2)) 5 (upd (z.1 5) ((1600 + ((z.1 6) 4)).toNatClampNeg) x3)) 6 (upd (z.1 6) 4 (((z.1 6) 4) + 1))), z.2)) else none else none else none
def f_X11_puts (N : Nat) (z : ql_Z) (x1 : Int32) (x2 : Int32) (x3 : Int32) : Option (Int32 × ql_Z) := f_X11_puts_0 N z x1 x2 x3
set_option maxHeartbeats 4000000 in
set_option maxRecDepth 100000 in
theorem w_X11_puts_0 {p : Program} {l : Launch} {e : Env} {s : State} {m : MethodId} {args : Array Value} {below : List Frame} {meth : Method} {c : Code} {dC : Nat → ClassId} {dI : Nat → Nat → Nat} {A : Nat → Prop} {h : Nat} {ad : Nat → Nat} {cI cZ cJ : ClassId} {res : Int32 × ql_Z} (C0 : ql_C p s m args meth c cX11_puts 5 (some .int) wsX11_puts RX11 (dC, dI) [(cI, .int), (cZ, .boolean), (cJ, .long)] A) (N : Nat) : ∀ (z : ql_Z) (x1 : Int32) (x2 : Int32) (x3 : Int32), f_X11_puts_0 N z x1 x2 x3 = some res → ∀ (H : Heap) (locs : List Loc) (ls : Array Slot), va_P (dC, dI) vwCl ((ql_mw h ad cI cZ cJ) z) H → va_D A ((ql_mw h ad cI cZ cJ) z) → va_S A s.heap H locs → lv_has ls 5 [(0, .ref h), (1, .int x1), (2, .int x2), (3, .int x3)] → W p l e rm_X11_puts s m args below meth c H locs 0 0 (ql_Qi below (dC, dI) (ql_mw h ad cI cZ cJ) A args s res) (F0 m 0 ls []) := by
  have C0q := C0
  obtain ⟨hx, hb, hr, hml, hown, hts, hlocks, hK, hA⟩ := C0q
  have fl22 := hts (Cond.fieldLink RX11 22 "TestedLoopsModel" "steps" "[I") (by decide +kernel)
  have fl13 := hts (Cond.fieldLink RX11 13 "TestedLoopsModel" "does" "[I") (by decide +kernel)
  have fl16 := hts (Cond.fieldLink RX11 16 "TestedLoopsModel" "what" "[I") (by decide +kernel)
  have fl19 := hts (Cond.fieldLink RX11 19 "TestedLoopsModel" "goes" "[I") (by decide +kernel)
  intro z x1 x2 x3 hf H locs ls hP hD hS hl
  unfold f_X11_puts_0 at hf
  refine lv_sipush (v := 1600) hx hb dX11_puts_0 (by decide) ?_
  refine lv_aload_n hx hb dX11_puts_3 rfl (lv_at hl 0 rfl) ?_
  refine va_get (D := (dC, dI)) (ci := 11) (v := .ref (ad 6)) (C := RX11) (T := TX11) (N := 41) hx hb hts iw_X11_puts_X11 hown hK.1 hP 0 rfl rfl 6 (by decide) fl22 (fun _ h9 => h9) rfl dX11_puts_4 ?_
  refine lv_iconst (v := 4) hx hb dX11_puts_7 (by decide) ?_
  refine va_iald (f := (z.1 6)) hx hb hK.1 hP 5 0 rfl rfl (ql_in (i := 4) (n := 5) (by decide)) dX11_puts_8 ?_
  refine ql_tv (y := (z.1 6) 4) (congrArg (z.1 6) (by decide)) ?_
  refine lv_iadd hx hb dX11_puts_9 ?_
  refine lv_istore (lv' := [(4, .int (1600 + ((z.1 6) 4))), (0, .ref h), (1, .int x1), (2, .int x2), (3, .int x3)]) hx hb dX11_puts_10 hl (by decide) rfl (fun ls hl => ?_)
  refine lv_aload_n hx hb dX11_puts_12 rfl (lv_at hl 1 rfl) ?_
  refine va_get (D := (dC, dI)) (ci := 11) (v := .ref (ad 3)) (C := RX11) (T := TX11) (N := 41) hx hb hts iw_X11_puts_X11 hown hK.1 hP 0 rfl rfl 3 (by decide) fl13 (fun _ h9 => h9) rfl dX11_puts_13 ?_
  refine lv_iload hx hb dX11_puts_16 (lv_at hl 0 rfl) ?_
  refine lv_iload_n hx hb dX11_puts_18 rfl (lv_at hl 2 rfl) ?_
  have g0 := ql_in (ql_gt hf)
  have hf := ql_gx hf
  refine va_iast (f := (z.1 3)) hx hb hK.1 hP hD hS 2 0 rfl rfl g0 dX11_puts_19 (fun H locs hP hD hS => ?_)
  refine lv_aload_n hx hb dX11_puts_20 rfl (lv_at hl 1 rfl) ?_
  refine va_get (D := (dC, dI)) (ci := 11) (v := .ref (ad 4)) (C := RX11) (T := TX11) (N := 41) hx hb hts iw_X11_puts_X11 hown hK.1 hP 0 rfl rfl 4 (by decide) fl16 (fun _ h9 => h9) rfl dX11_puts_21 ?_
  refine lv_iload hx hb dX11_puts_24 (lv_at hl 0 rfl) ?_
  refine lv_iload_n hx hb dX11_puts_26 rfl (lv_at hl 3 rfl) ?_
  have g0 := ql_in (ql_gt hf)
  have hf := ql_gx hf
  refine va_iast (f := (z.1 4)) hx hb hK.1 hP hD hS 3 0 rfl rfl g0 dX11_puts_27 (fun H locs hP hD hS => ?_)
  refine lv_aload_n hx hb dX11_puts_28 rfl (lv_at hl 1 rfl) ?_
  refine va_get (D := (dC, dI)) (ci := 11) (v := .ref (ad 5)) (C := RX11) (T := TX11) (N := 41) hx hb hts iw_X11_puts_X11 hown hK.1 hP 0 rfl rfl 5 (by decide) fl19 (fun _ h9 => h9) rfl dX11_puts_29 ?_
  refine lv_iload hx hb dX11_puts_32 (lv_at hl 0 rfl) ?_
  refine lv_iload_n hx hb dX11_puts_34 rfl (lv_at hl 4 rfl) ?_
  have g0 := ql_in (ql_gt hf)
  have hf := ql_gx hf
  refine va_iast (f := (z.1 5)) hx hb hK.1 hP hD hS 4 0 rfl rfl g0 dX11_puts_35 (fun H locs hP hD hS => ?_)
  refine lv_aload_n hx hb dX11_puts_36 rfl (lv_at hl 1 rfl) ?_
  refine va_get (D := (dC, dI)) (ci := 11) (v := .ref (ad 6)) (C := RX11) (T := TX11) (N := 41) hx hb hts iw_X11_puts_X11 hown hK.1 hP 0 rfl rfl 6 (by decide) fl22 (fun _ h9 => h9) rfl dX11_puts_37 ?_
  refine lv_iconst (v := 4) hx hb dX11_puts_40 (by decide) ?_
  refine lv_dup2_11 hx hb dX11_puts_41 rfl rfl ?_
  refine va_iald (f := (z.1 6)) hx hb hK.1 hP 5 0 rfl rfl (ql_in (i := 4) (n := 5) (by decide)) dX11_puts_42 ?_
  refine ql_tv (y := (z.1 6) 4) (congrArg (z.1 6) (by decide)) ?_
  refine lv_iconst (v := 1) hx hb dX11_puts_43 (by decide) ?_
  refine lv_iadd hx hb dX11_puts_44 ?_
  refine va_iast (f := (z.1 6)) hx hb hK.1 hP hD hS 5 0 rfl rfl (ql_in (i := 4) (n := 5) (by decide)) dX11_puts_45 (fun H locs hP hD hS => ?_)
  refine lv_aload_n hx hb dX11_puts_46 rfl (lv_at hl 1 rfl) ?_
  refine va_get (D := (dC, dI)) (ci := 11) (v := .ref (ad 6)) (C := RX11) (T := TX11) (N := 41) hx hb hts iw_X11_puts_X11 hown hK.1 hP 0 rfl rfl 6 (by decide) fl22 (fun _ h9 => h9) rfl dX11_puts_47 ?_
  refine lv_iconst (v := 4) hx hb dX11_puts_50 (by decide) ?_
  refine va_iald (f := (upd (z.1 6) 4 (((z.1 6) 4) + 1))) hx hb hK.1 hP 5 0 rfl rfl (ql_in (i := 4) (n := 5) (by decide)) dX11_puts_51 ?_
  refine ql_tv (y := (upd (z.1 6) 4 (((z.1 6) 4) + 1)) 4) (congrArg (upd (z.1 6) 4 (((z.1 6) 4) + 1)) (by decide)) ?_
  refine lv_iconst (v := 1) hx hb dX11_puts_52 (by decide) ?_
  refine lv_isub hx hb dX11_puts_53 ?_
  exact ql_iret C0 hf hP hD hS dX11_puts_54
set_option maxRecDepth 100000 in
theorem c_X11_puts (l : Launch) (dC : Nat → ClassId) (dI : Nat → Nat → Nat) (h : Nat) (ad : Nat → Nat) (cI cZ cJ : ClassId) (N : Nat) (z : ql_Z) (x1 : Int32) (x2 : Int32) (x3 : Int32) (res : Int32 × ql_Z) (hf : f_X11_puts N z x1 x2 x3 = some res) : ql_Mi l yX11_puts wsX11_puts rm_X11_puts (dC, dI) [(cI, .int), (cZ, .boolean), (cJ, .long)] (ql_mw h ad cI cZ cJ) [.ref h, .int x1, .int x2, .int x3] z res :=
  ql_start_i (by decide) rfl (Nat.le_of_ble_eq_true rfl) (fun p e s m below meth c A ls C0 hl hP hD hS => w_X11_puts_0 C0 N z x1 x2 x3 hf s.heap [] ls hP hD hS (lv_sub (show lv_has ls 5 [(0, .ref h), (1, .int x1), (2, .int x2), (3, .int x3)] from hl) [0, 1, 2, 3] rfl))
/-! ===== TestedLoopsModel.notes(II)V ===== -/
abbrev rm_X11_notes : Room := { frames := 0, cells := 0, slots := 0, locals := 0 }
theorem iw_X11_notes_X11 : ∀ w ∈ wsX110, w ∈ wsX11_notes := fun w h => List.mem_cons_of_mem _ (List.mem_append_right _ h)
theorem qv_X11_notes : yX11_notes.cls = RX11 ∧ yX11_notes.cls ≠ "java/lang/invoke/MethodHandle" ∧ yX11_notes.cls ≠ "java/lang/invoke/VarHandle" ∧ (parseMethodDescriptor yX11_notes.desc).map (fun d => d.parameters.length) = some 2 := by decide +kernel
def f_X11_notes_0 (N : Nat) (z : ql_Z) (x1 : Int32) (x2 : Int32) : Option (ql_Z) := if ql_ib (800 + ((z.1 12) 4)) 1000 = true then if ql_ib (800 + ((z.1 12) 4)) 1000 = true then some ((ql_up (ql_up (ql_up z.1 10 (upd (z.1 10) ((800 + ((z.1 12) 4)).toNatClampNeg) x1)) 11 (upd (z.1 11) ((800 + ((z.1 12) 4)).toNatClampNeg) x2)) 12 (upd (z.1 12) 4 (((z.1 12) 4) + 1))), z.2) else none else none
def f_X11_notes (N : Nat) (z : ql_Z) (x1 : Int32) (x2 : Int32) : Option (ql_Z) := f_X11_notes_0 N z x1 x2
set_option maxHeartbeats 4000000 in
set_option maxRecDepth 100000 in
theorem w_X11_notes_0 {p : Program} {l : Launch} {e : Env} {s : State} {m : MethodId} {args : Array Value} {below : List Frame} {meth : Method} {c : Code} {dC : Nat → ClassId} {dI : Nat → Nat → Nat} {A : Nat → Prop} {h : Nat} {ad : Nat → Nat} {cI cZ cJ : ClassId} {res : ql_Z} (C0 : ql_C p s m args meth c cX11_notes 3 none wsX11_notes RX11 (dC, dI) [(cI, .int), (cZ, .boolean), (cJ, .long)] A) (N : Nat) : ∀ (z : ql_Z) (x1 : Int32) (x2 : Int32), f_X11_notes_0 N z x1 x2 = some res → ∀ (H : Heap) (locs : List Loc) (ls : Array Slot), va_P (dC, dI) vwCl ((ql_mw h ad cI cZ cJ) z) H → va_D A ((ql_mw h ad cI cZ cJ) z) → va_S A s.heap H locs → lv_has ls 3 [(0, .ref h), (1, .int x1), (2, .int x2)] → W p l e rm_X11_notes s m args below meth c H locs 0 0 (ql_Qv below (dC, dI) (ql_mw h ad cI cZ cJ) A args s res) (F0 m 0 ls []) := by
  have C0q := C0
  obtain ⟨hx, hb, hr, hml, hown, hts, hlocks, hK, hA⟩ := C0q
  have fl34 := hts (Cond.fieldLink RX11 34 "TestedLoopsModel" "kinds" "[I") (by decide +kernel)
  have fl40 := hts (Cond.fieldLink RX11 40 "TestedLoopsModel" "statements" "[I") (by decide +kernel)
  have fl37 := hts (Cond.fieldLink RX11 37 "TestedLoopsModel" "lets" "[I") (by decide +kernel)
  intro z x1 x2 hf H locs ls hP hD hS hl
  unfold f_X11_notes_0 at hf
  refine lv_aload_n hx hb dX11_notes_0 rfl (lv_at hl 0 rfl) ?_
  refine va_get (D := (dC, dI)) (ci := 11) (v := .ref (ad 10)) (C := RX11) (T := TX11) (N := 41) hx hb hts iw_X11_notes_X11 hown hK.1 hP 0 rfl rfl 10 (by decide) fl34 (fun _ h9 => h9) rfl dX11_notes_1 ?_
  refine lv_sipush (v := 800) hx hb dX11_notes_4 (by decide) ?_
  refine lv_aload_n hx hb dX11_notes_7 rfl (lv_at hl 0 rfl) ?_
  refine va_get (D := (dC, dI)) (ci := 11) (v := .ref (ad 12)) (C := RX11) (T := TX11) (N := 41) hx hb hts iw_X11_notes_X11 hown hK.1 hP 0 rfl rfl 12 (by decide) fl40 (fun _ h9 => h9) rfl dX11_notes_8 ?_
  refine lv_iconst (v := 4) hx hb dX11_notes_11 (by decide) ?_
  refine va_iald (f := (z.1 12)) hx hb hK.1 hP 11 0 rfl rfl (ql_in (i := 4) (n := 5) (by decide)) dX11_notes_12 ?_
  refine ql_tv (y := (z.1 12) 4) (congrArg (z.1 12) (by decide)) ?_
  refine lv_iadd hx hb dX11_notes_13 ?_
  refine lv_iload_n hx hb dX11_notes_14 rfl (lv_at hl 1 rfl) ?_
  have g0 := ql_in (ql_gt hf)
  have hf := ql_gx hf
  refine va_iast (f := (z.1 10)) hx hb hK.1 hP hD hS 9 0 rfl rfl g0 dX11_notes_15 (fun H locs hP hD hS => ?_)
  refine lv_aload_n hx hb dX11_notes_16 rfl (lv_at hl 0 rfl) ?_
  refine va_get (D := (dC, dI)) (ci := 11) (v := .ref (ad 11)) (C := RX11) (T := TX11) (N := 41) hx hb hts iw_X11_notes_X11 hown hK.1 hP 0 rfl rfl 11 (by decide) fl37 (fun _ h9 => h9) rfl dX11_notes_17 ?_
  refine lv_sipush (v := 800) hx hb dX11_notes_20 (by decide) ?_
  refine lv_aload_n hx hb dX11_notes_23 rfl (lv_at hl 0 rfl) ?_
  refine va_get (D := (dC, dI)) (ci := 11) (v := .ref (ad 12)) (C := RX11) (T := TX11) (N := 41) hx hb hts iw_X11_notes_X11 hown hK.1 hP 0 rfl rfl 12 (by decide) fl40 (fun _ h9 => h9) rfl dX11_notes_24 ?_
  refine lv_iconst (v := 4) hx hb dX11_notes_27 (by decide) ?_
  refine va_iald (f := (z.1 12)) hx hb hK.1 hP 11 0 rfl rfl (ql_in (i := 4) (n := 5) (by decide)) dX11_notes_28 ?_
  refine ql_tv (y := (z.1 12) 4) (congrArg (z.1 12) (by decide)) ?_
  refine lv_iadd hx hb dX11_notes_29 ?_
  refine lv_iload_n hx hb dX11_notes_30 rfl (lv_at hl 2 rfl) ?_
  have g0 := ql_in (ql_gt hf)
  have hf := ql_gx hf
  refine va_iast (f := (z.1 11)) hx hb hK.1 hP hD hS 10 0 rfl rfl g0 dX11_notes_31 (fun H locs hP hD hS => ?_)
  refine lv_aload_n hx hb dX11_notes_32 rfl (lv_at hl 0 rfl) ?_
  refine va_get (D := (dC, dI)) (ci := 11) (v := .ref (ad 12)) (C := RX11) (T := TX11) (N := 41) hx hb hts iw_X11_notes_X11 hown hK.1 hP 0 rfl rfl 12 (by decide) fl40 (fun _ h9 => h9) rfl dX11_notes_33 ?_
  refine lv_iconst (v := 4) hx hb dX11_notes_36 (by decide) ?_
  refine lv_dup2_11 hx hb dX11_notes_37 rfl rfl ?_
  refine va_iald (f := (z.1 12)) hx hb hK.1 hP 11 0 rfl rfl (ql_in (i := 4) (n := 5) (by decide)) dX11_notes_38 ?_
  refine ql_tv (y := (z.1 12) 4) (congrArg (z.1 12) (by decide)) ?_
  refine lv_iconst (v := 1) hx hb dX11_notes_39 (by decide) ?_
  refine lv_iadd hx hb dX11_notes_40 ?_
  refine va_iast (f := (z.1 12)) hx hb hK.1 hP hD hS 11 0 rfl rfl (ql_in (i := 4) (n := 5) (by decide)) dX11_notes_41 (fun H locs hP hD hS => ?_)
  exact ql_vret C0 hf hP hD hS dX11_notes_42
set_option maxRecDepth 100000 in
theorem c_X11_notes (l : Launch) (dC : Nat → ClassId) (dI : Nat → Nat → Nat) (h : Nat) (ad : Nat → Nat) (cI cZ cJ : ClassId) (N : Nat) (z : ql_Z) (x1 : Int32) (x2 : Int32) (res : ql_Z) (hf : f_X11_notes N z x1 x2 = some res) : ql_Mv l yX11_notes wsX11_notes rm_X11_notes (dC, dI) [(cI, .int), (cZ, .boolean), (cJ, .long)] (ql_mw h ad cI cZ cJ) [.ref h, .int x1, .int x2] z res :=
  ql_start_v (by decide) rfl (Nat.le_of_ble_eq_true rfl) (fun p e s m below meth c A ls C0 hl hP hD hS => w_X11_notes_0 C0 N z x1 x2 hf s.heap [] ls hP hD hS (lv_sub (show lv_has ls 3 [(0, .ref h), (1, .int x1), (2, .int x2)] from hl) [0, 1, 2] rfl))
/-! ===== TestedLoopsModel.lands(I)V ===== -/
abbrev rm_X11_lands : Room := { frames := 0, cells := 0, slots := 0, locals := 0 }
theorem iw_X11_lands_X11 : ∀ w ∈ wsX110, w ∈ wsX11_lands := fun w h => List.mem_cons_of_mem _ (List.mem_append_right _ h)
theorem qv_X11_lands : yX11_lands.cls = RX11 ∧ yX11_lands.cls ≠ "java/lang/invoke/MethodHandle" ∧ yX11_lands.cls ≠ "java/lang/invoke/VarHandle" ∧ (parseMethodDescriptor yX11_lands.desc).map (fun d => d.parameters.length) = some 1 := by decide +kernel
def f_X11_lands_0 (N : Nat) (z : ql_Z) (x1 : Int32) : Option (ql_Z) := if ql_ib (1600 + x1) 2000 = true then some ((ql_up z.1 5 (upd (z.1 5) ((1600 + x1).toNatClampNeg) ((z.1 6) 4))), z.2) else none
def f_X11_lands (N : Nat) (z : ql_Z) (x1 : Int32) : Option (ql_Z) := f_X11_lands_0 N z x1
set_option maxHeartbeats 4000000 in
set_option maxRecDepth 100000 in
theorem w_X11_lands_0 {p : Program} {l : Launch} {e : Env} {s : State} {m : MethodId} {args : Array Value} {below : List Frame} {meth : Method} {c : Code} {dC : Nat → ClassId} {dI : Nat → Nat → Nat} {A : Nat → Prop} {h : Nat} {ad : Nat → Nat} {cI cZ cJ : ClassId} {res : ql_Z} (C0 : ql_C p s m args meth c cX11_lands 2 none wsX11_lands RX11 (dC, dI) [(cI, .int), (cZ, .boolean), (cJ, .long)] A) (N : Nat) : ∀ (z : ql_Z) (x1 : Int32), f_X11_lands_0 N z x1 = some res → ∀ (H : Heap) (locs : List Loc) (ls : Array Slot), va_P (dC, dI) vwCl ((ql_mw h ad cI cZ cJ) z) H → va_D A ((ql_mw h ad cI cZ cJ) z) → va_S A s.heap H locs → lv_has ls 2 [(0, .ref h), (1, .int x1)] → W p l e rm_X11_lands s m args below meth c H locs 0 0 (ql_Qv below (dC, dI) (ql_mw h ad cI cZ cJ) A args s res) (F0 m 0 ls []) := by
  have C0q := C0
  obtain ⟨hx, hb, hr, hml, hown, hts, hlocks, hK, hA⟩ := C0q
  have fl19 := hts (Cond.fieldLink RX11 19 "TestedLoopsModel" "goes" "[I") (by decide +kernel)
  have fl22 := hts (Cond.fieldLink RX11 22 "TestedLoopsModel" "steps" "[I") (by decide +kernel)
  intro z x1 hf H locs ls hP hD hS hl
  unfold f_X11_lands_0 at hf
  refine lv_aload_n hx hb dX11_lands_0 rfl (lv_at hl 0 rfl) ?_
  refine va_get (D := (dC, dI)) (ci := 11) (v := .ref (ad 5)) (C := RX11) (T := TX11) (N := 41) hx hb hts iw_X11_lands_X11 hown hK.1 hP 0 rfl rfl 5 (by decide) fl19 (fun _ h9 => h9) rfl dX11_lands_1 ?_
  refine lv_sipush (v := 1600) hx hb dX11_lands_4 (by decide) ?_
  refine lv_iload_n hx hb dX11_lands_7 rfl (lv_at hl 1 rfl) ?_
  refine lv_iadd hx hb dX11_lands_8 ?_
  refine lv_aload_n hx hb dX11_lands_9 rfl (lv_at hl 0 rfl) ?_
  refine va_get (D := (dC, dI)) (ci := 11) (v := .ref (ad 6)) (C := RX11) (T := TX11) (N := 41) hx hb hts iw_X11_lands_X11 hown hK.1 hP 0 rfl rfl 6 (by decide) fl22 (fun _ h9 => h9) rfl dX11_lands_10 ?_
  refine lv_iconst (v := 4) hx hb dX11_lands_13 (by decide) ?_
  refine va_iald (f := (z.1 6)) hx hb hK.1 hP 5 0 rfl rfl (ql_in (i := 4) (n := 5) (by decide)) dX11_lands_14 ?_
  refine ql_tv (y := (z.1 6) 4) (congrArg (z.1 6) (by decide)) ?_
  have g0 := ql_in (ql_gt hf)
  have hf := ql_gx hf
  refine va_iast (f := (z.1 5)) hx hb hK.1 hP hD hS 4 0 rfl rfl g0 dX11_lands_15 (fun H locs hP hD hS => ?_)
  exact ql_vret C0 hf hP hD hS dX11_lands_16
set_option maxRecDepth 100000 in
theorem c_X11_lands (l : Launch) (dC : Nat → ClassId) (dI : Nat → Nat → Nat) (h : Nat) (ad : Nat → Nat) (cI cZ cJ : ClassId) (N : Nat) (z : ql_Z) (x1 : Int32) (res : ql_Z) (hf : f_X11_lands N z x1 = some res) : ql_Mv l yX11_lands wsX11_lands rm_X11_lands (dC, dI) [(cI, .int), (cZ, .boolean), (cJ, .long)] (ql_mw h ad cI cZ cJ) [.ref h, .int x1] z res :=
  ql_start_v (by decide) rfl (Nat.le_of_ble_eq_true rfl) (fun p e s m below meth c A ls C0 hl hP hD hS => w_X11_lands_0 C0 N z x1 hf s.heap [] ls hP hD hS (lv_sub (show lv_has ls 2 [(0, .ref h), (1, .int x1)] from hl) [0, 1] rfl))
/-! ===== TestedLoopsModel.opens(I)Z ===== -/
abbrev rm_X11_opens : Room := { frames := 4, cells := 0, slots := 0, locals := 86 }
theorem iw_X11_opens_X11 : ∀ w ∈ wsX110, w ∈ wsX11_opens := fun w h => List.mem_cons_of_mem _ (List.mem_append_right _ h)
theorem qv_X11_opens : yX11_opens.cls = RX11 ∧ yX11_opens.cls ≠ "java/lang/invoke/MethodHandle" ∧ yX11_opens.cls ≠ "java/lang/invoke/VarHandle" ∧ (parseMethodDescriptor yX11_opens.desc).map (fun d => d.parameters.length) = some 1 := by decide +kernel
def f_X11_opens_128 (N : Nat) (z : ql_Z) (y0 : Int32) (y1 : Int32) : Option (Int32 × ql_Z) := if ql_ib y1 9 = true then (f_X11_scans N ((ql_up (ql_up z.1 24 (upd (z.1 24) y1.toNatClampNeg (vp_nar .boolean y0))) 25 (fun _ => ((z.1 25 0) + 1))), z.2)).bind fun u1 => some (1, u1) else none
def f_X11_opens_76 (N : Nat) (z : ql_Z) (x1 : Int32) (x2 : Int32) (y0 : Int32) : Option (Int32 × ql_Z) := (f_X11_sizeOf N x2).bind fun u2 => (f_X11_notes N z y0 u2).bind fun u3 => (f_X11_puts N u3 1 x2 0).bind fun u4 => if ql_ib (u3.1 25 0) 9 = true then if ql_ib (u4.2.1 25 0) 9 = true then if x1 = 8 then f_X11_opens_128 N ((ql_up (ql_up u4.2.1 22 (upd (u4.2.1 22) ((u3.1 25 0).toNatClampNeg) u4.1)) 23 (upd (u4.2.1 23) ((u4.2.1 25 0).toNatClampNeg) (-1))), u4.2.2) 1 (u4.2.1 25 0) else f_X11_opens_128 N ((ql_up (ql_up u4.2.1 22 (upd (u4.2.1 22) ((u3.1 25 0).toNatClampNeg) u4.1)) 23 (upd (u4.2.1 23) ((u4.2.1 25 0).toNatClampNeg) (-1))), u4.2.2) 0 (u4.2.1 25 0) else none else none
def f_X11_opens_60 (N : Nat) (z : ql_Z) (x1 : Int32) (x2 : Int32) (y0 : Int32) (y1 : Int32) : Option (Int32 × ql_Z) := if y1 = y0 then if x1 = 4 then f_X11_opens_76 N z x1 x2 2 else f_X11_opens_76 N z x1 x2 3 else some (0, z)
def f_X11_opens_11 (N : Nat) (z : ql_Z) (x1 : Int32) : Option (Int32 × ql_Z) := if (z.1 21 0) = 8 then some (0, z) else (f_X11_scans N ((ql_up z.1 21 (fun _ => ((z.1 21 0) + 1))), z.2)).bind fun u9 => (f_X11_test N u9).bind fun u10 => if u10.1 < 0 then some (0, u10.2) else if x1 = 4 then f_X11_opens_60 N u10.2 x1 u10.1 5 (u10.2.1 15 0) else f_X11_opens_60 N u10.2 x1 u10.1 9 (u10.2.1 15 0)
def f_X11_opens_0 (N : Nat) (z : ql_Z) (x1 : Int32) : Option (Int32 × ql_Z) := if x1 = 4 then f_X11_opens_11 N z x1 else if x1 = 8 then f_X11_opens_11 N z x1 else some (0, z)
def f_X11_opens (N : Nat) (z : ql_Z) (x1 : Int32) : Option (Int32 × ql_Z) := f_X11_opens_0 N z x1
set_option maxHeartbeats 4000000 in
set_option maxRecDepth 100000 in
theorem w_X11_opens_128 {p : Program} {l : Launch} {e : Env} {s : State} {m : MethodId} {args : Array Value} {below : List Frame} {meth : Method} {c : Code} {dC : Nat → ClassId} {dI : Nat → Nat → Nat} {A : Nat → Prop} {h : Nat} {ad : Nat → Nat} {cI cZ cJ : ClassId} {res : Int32 × ql_Z} (C0 : ql_C p s m args meth c cX11_opens 3 (some .boolean) wsX11_opens RX11 (dC, dI) [(cI, .int), (cZ, .boolean), (cJ, .long)] A) (N : Nat) : ∀ (z : ql_Z) (y0 : Int32) (y1 : Int32), f_X11_opens_128 N z y0 y1 = some res → ∀ (H : Heap) (locs : List Loc) (ls : Array Slot), va_P (dC, dI) vwCl ((ql_mw h ad cI cZ cJ) z) H → va_D A ((ql_mw h ad cI cZ cJ) z) → va_S A s.heap H locs → lv_has ls 3 [(0, .ref h)] → W p l e rm_X11_opens s m args below meth c H locs 0 0 (ql_Qi below (dC, dI) (ql_mw h ad cI cZ cJ) A args s res) (F0 m 128 ls [.int y0, .int y1, .ref (ad 24)]) := by
  have C0q := C0
  obtain ⟨hx, hb, hr, hml, hown, hts, hlocks, hK, hA⟩ := C0q
  have fl212 := hts (Cond.fieldLink RX11 212 "TestedLoopsModel" "frames" "I") (by decide +kernel)
  intro z y0 y1 hf H locs ls hP hD hS hl
  unfold f_X11_opens_128 at hf
  have g0 := ql_in (ql_gt hf)
  have hf := ql_gx hf
  refine va_zast (f := (z.1 24)) hx hb hK.1 hP hD hS 17 1 rfl rfl g0 dX11_opens_128 (fun H locs hP hD hS => ?_)
  refine lv_aload_n hx hb dX11_opens_129 rfl (lv_at hl 0 rfl) ?_
  refine lv_dup hx hb dX11_opens_130 rfl ?_
  refine va_get (D := (dC, dI)) (ci := 11) (v := .int (z.1 25 0)) (C := RX11) (T := TX11) (N := 41) hx hb hts iw_X11_opens_X11 hown hK.1 hP 0 rfl rfl 25 (by decide) fl212 (fun _ h9 => h9) rfl dX11_opens_131 ?_
  refine lv_iconst (v := 1) hx hb dX11_opens_134 (by decide) ?_
  refine lv_iadd hx hb dX11_opens_135 ?_
  refine va_put (D := (dC, dI)) (ci := 11) (v := .int ((z.1 25 0) + 1)) (ty := .int) (C := RX11) (T := TX11) (N := 41) hx hb hts iw_X11_opens_X11 tyX11 tyX11_ok nmX11 hown hK.1 hP hD hS 0 rfl rfl 25 (by decide) fl212 (fun _ h9 => h9) rfl (by decide +kernel) rfl rfl (Nat.le_of_ble_eq_true rfl) dX11_opens_136 (fun H locs hP hD hS => ?_)
  refine lv_aload_n hx hb dX11_opens_139 rfl (lv_at hl 0 rfl) ?_
  obtain ⟨u1, hu1, hf⟩ := ql_bd hf
  refine ql_callVv (As := []) (rest := []) C0 (c_X11_scans l dC dI h ad cI cZ cJ N ((ql_up (ql_up z.1 24 (upd (z.1 24) y1.toNatClampNeg (vp_nar .boolean y0))) 25 (fun _ => ((z.1 25 0) + 1))), z.2) u1 hu1) (cwV 0 hts gX11_opens_X11_scans rfl rfl rfl qv_X11_scans ⟨Nat.le_of_ble_eq_true rfl, Nat.le_of_ble_eq_true rfl⟩) (va_recv hK.1 hP (ci := 11) (q0 := 0) rfl rfl) hP hD hS hl.1 rfl rfl (Nat.le_of_ble_eq_true rfl) dX11_opens_140 (fun H locs hP hD hS => ?_)
  refine lv_iconst (v := 1) hx hb dX11_opens_143 (by decide) ?_
  exact ql_zret C0 (Or.inr rfl) hf hP hD hS dX11_opens_144
set_option maxHeartbeats 4000000 in
set_option maxRecDepth 100000 in
theorem w_X11_opens_76 {p : Program} {l : Launch} {e : Env} {s : State} {m : MethodId} {args : Array Value} {below : List Frame} {meth : Method} {c : Code} {dC : Nat → ClassId} {dI : Nat → Nat → Nat} {A : Nat → Prop} {h : Nat} {ad : Nat → Nat} {cI cZ cJ : ClassId} {res : Int32 × ql_Z} (C0 : ql_C p s m args meth c cX11_opens 3 (some .boolean) wsX11_opens RX11 (dC, dI) [(cI, .int), (cZ, .boolean), (cJ, .long)] A) (N : Nat) : ∀ (z : ql_Z) (x1 : Int32) (x2 : Int32) (y0 : Int32), f_X11_opens_76 N z x1 x2 y0 = some res → ∀ (H : Heap) (locs : List Loc) (ls : Array Slot), va_P (dC, dI) vwCl ((ql_mw h ad cI cZ cJ) z) H → va_D A ((ql_mw h ad cI cZ cJ) z) → va_S A s.heap H locs → lv_has ls 3 [(0, .ref h), (1, .int x1), (2, .int x2)] → W p l e rm_X11_opens s m args below meth c H locs 0 0 (ql_Qi below (dC, dI) (ql_mw h ad cI cZ cJ) A args s res) (F0 m 76 ls [.int y0, .ref h]) := by
  have C0q := C0
  obtain ⟨hx, hb, hr, hml, hown, hts, hlocks, hK, hA⟩ := C0q
  have fl52 := hts (Cond.fieldLink RX11 52 "TestedLoopsModel" "frameTest" "[I") (by decide +kernel)
  have fl212 := hts (Cond.fieldLink RX11 212 "TestedLoopsModel" "frames" "I") (by decide +kernel)
  have fl55 := hts (Cond.fieldLink RX11 55 "TestedLoopsModel" "frameJump" "[I") (by decide +kernel)
  have fl58 := hts (Cond.fieldLink RX11 58 "TestedLoopsModel" "frameLoop" "[Z") (by decide +kernel)
  intro z x1 x2 y0 hf H locs ls hP hD hS hl
  unfold f_X11_opens_76 at hf
  refine lv_iload_n hx hb dX11_opens_76 rfl (lv_at hl 2 rfl) ?_
  obtain ⟨u2, hu2, hf⟩ := ql_bd hf
  refine ql_callRSi (As := [.int x2]) (rest := [.int y0, .ref h]) C0 (c_X11_sizeOf l dC dI N x2 u2 hu2) (va_cwS 1 hts gX11_opens_X11_sizeOf rfl rfl rfl qd_X11_sizeOf ⟨Nat.le_of_ble_eq_true rfl, Nat.le_of_ble_eq_true rfl⟩) (hK.sub [] rfl) ql_nil hS hl.1 rfl rfl (Nat.le_of_ble_eq_true rfl) dX11_opens_77 (fun H1 locs hk hS => ?_)
  have hP := ql_keep hP hk
  obtain ⟨u3, hu3, hf⟩ := ql_bd hf
  refine ql_callVv (As := [.int y0, .int u2]) (rest := []) C0 (c_X11_notes l dC dI h ad cI cZ cJ N z y0 u2 u3 hu3) (cwV 2 hts gX11_opens_X11_notes rfl rfl rfl qv_X11_notes ⟨Nat.le_of_ble_eq_true rfl, Nat.le_of_ble_eq_true rfl⟩) (va_recv hK.1 hP (ci := 11) (q0 := 0) rfl rfl) hP hD hS hl.1 rfl rfl (Nat.le_of_ble_eq_true rfl) dX11_opens_80 (fun H locs hP hD hS => ?_)
  refine lv_aload_n hx hb dX11_opens_83 rfl (lv_at hl 0 rfl) ?_
  refine va_get (D := (dC, dI)) (ci := 11) (v := .ref (ad 22)) (C := RX11) (T := TX11) (N := 41) hx hb hts iw_X11_opens_X11 hown hK.1 hP 0 rfl rfl 22 (by decide) fl52 (fun _ h9 => h9) rfl dX11_opens_84 ?_
  refine lv_aload_n hx hb dX11_opens_87 rfl (lv_at hl 0 rfl) ?_
  refine va_get (D := (dC, dI)) (ci := 11) (v := .int (u3.1 25 0)) (C := RX11) (T := TX11) (N := 41) hx hb hts iw_X11_opens_X11 hown hK.1 hP 0 rfl rfl 25 (by decide) fl212 (fun _ h9 => h9) rfl dX11_opens_88 ?_
  refine lv_aload_n hx hb dX11_opens_91 rfl (lv_at hl 0 rfl) ?_
  refine lv_iconst (v := 1) hx hb dX11_opens_92 (by decide) ?_
  refine lv_iload_n hx hb dX11_opens_93 rfl (lv_at hl 2 rfl) ?_
  refine lv_iconst (v := 0) hx hb dX11_opens_94 (by decide) ?_
  obtain ⟨u4, hu4, hf⟩ := ql_bd hf
  refine ql_callVi (As := [.int 1, .int x2, .int 0]) (rest := [.int (u3.1 25 0), .ref (ad 22)]) C0 (c_X11_puts l dC dI h ad cI cZ cJ N u3 1 x2 0 u4 hu4) (cwV 3 hts gX11_opens_X11_puts rfl rfl rfl qv_X11_puts ⟨Nat.le_of_ble_eq_true rfl, Nat.le_of_ble_eq_true rfl⟩) (va_recv hK.1 hP (ci := 11) (q0 := 0) rfl rfl) hP hD hS hl.1 rfl rfl (Nat.le_of_ble_eq_true rfl) dX11_opens_95 (fun H locs hP hD hS => ?_)
  have g0 := ql_in (ql_gt hf)
  have hf := ql_gx hf
  refine va_iast (f := (u4.2.1 22)) hx hb hK.1 hP hD hS 15 0 rfl rfl g0 dX11_opens_98 (fun H locs hP hD hS => ?_)
  refine lv_aload_n hx hb dX11_opens_99 rfl (lv_at hl 0 rfl) ?_
  refine va_get (D := (dC, dI)) (ci := 11) (v := .ref (ad 23)) (C := RX11) (T := TX11) (N := 41) hx hb hts iw_X11_opens_X11 hown hK.1 hP 0 rfl rfl 23 (by decide) fl55 (fun _ h9 => h9) rfl dX11_opens_100 ?_
  refine lv_aload_n hx hb dX11_opens_103 rfl (lv_at hl 0 rfl) ?_
  refine va_get (D := (dC, dI)) (ci := 11) (v := .int (u4.2.1 25 0)) (C := RX11) (T := TX11) (N := 41) hx hb hts iw_X11_opens_X11 hown hK.1 hP 0 rfl rfl 25 (by decide) fl212 (fun _ h9 => h9) rfl dX11_opens_104 ?_
  refine lv_iconst (v := (-1)) hx hb dX11_opens_107 (by decide) ?_
  have g0 := ql_in (ql_gt hf)
  have hf := ql_gx hf
  refine va_iast (f := (u4.2.1 23)) hx hb hK.1 hP hD hS 16 0 rfl rfl g0 dX11_opens_108 (fun H locs hP hD hS => ?_)
  refine lv_aload_n hx hb dX11_opens_109 rfl (lv_at hl 0 rfl) ?_
  refine va_get (D := (dC, dI)) (ci := 11) (v := .ref (ad 24)) (C := RX11) (T := TX11) (N := 41) hx hb hts iw_X11_opens_X11 hown hK.1 hP 0 rfl rfl 24 (by decide) fl58 (fun _ h9 => h9) rfl dX11_opens_110 ?_
  refine lv_aload_n hx hb dX11_opens_113 rfl (lv_at hl 0 rfl) ?_
  refine va_get (D := (dC, dI)) (ci := 11) (v := .int (u4.2.1 25 0)) (C := RX11) (T := TX11) (N := 41) hx hb hts iw_X11_opens_X11 hown hK.1 hP 0 rfl rfl 25 (by decide) fl212 (fun _ h9 => h9) rfl dX11_opens_114 ?_
  refine lv_iload_n hx hb dX11_opens_117 rfl (lv_at hl 1 rfl) ?_
  refine lv_bipush (v := 8) hx hb dX11_opens_118 (by decide) ?_
  refine lv_icmp_ne (tgt := 127) hx hb dX11_opens_120 (by decide) (fun c5 => ?_) (fun c5 => ?_)
  · have hf := (if_neg c5).symm.trans hf
    refine lv_iconst (v := 0) hx hb dX11_opens_127 (by decide) ?_
    exact w_X11_opens_128 C0 N _ _ _ hf _ _ _ hP hD hS (lv_sub hl [0] rfl)
  · have hf := (if_pos c5).symm.trans hf
    refine lv_iconst (v := 1) hx hb dX11_opens_123 (by decide) ?_
    refine lv_goto (tgt := 128) hx hb dX11_opens_124 (by decide) ?_
    exact w_X11_opens_128 C0 N _ _ _ hf _ _ _ hP hD hS (lv_sub hl [0] rfl)
set_option maxHeartbeats 4000000 in
set_option maxRecDepth 100000 in
theorem w_X11_opens_60 {p : Program} {l : Launch} {e : Env} {s : State} {m : MethodId} {args : Array Value} {below : List Frame} {meth : Method} {c : Code} {dC : Nat → ClassId} {dI : Nat → Nat → Nat} {A : Nat → Prop} {h : Nat} {ad : Nat → Nat} {cI cZ cJ : ClassId} {res : Int32 × ql_Z} (C0 : ql_C p s m args meth c cX11_opens 3 (some .boolean) wsX11_opens RX11 (dC, dI) [(cI, .int), (cZ, .boolean), (cJ, .long)] A) (N : Nat) : ∀ (z : ql_Z) (x1 : Int32) (x2 : Int32) (y0 : Int32) (y1 : Int32), f_X11_opens_60 N z x1 x2 y0 y1 = some res → ∀ (H : Heap) (locs : List Loc) (ls : Array Slot), va_P (dC, dI) vwCl ((ql_mw h ad cI cZ cJ) z) H → va_D A ((ql_mw h ad cI cZ cJ) z) → va_S A s.heap H locs → lv_has ls 3 [(0, .ref h), (1, .int x1), (2, .int x2)] → W p l e rm_X11_opens s m args below meth c H locs 0 0 (ql_Qi below (dC, dI) (ql_mw h ad cI cZ cJ) A args s res) (F0 m 60 ls [.int y0, .int y1]) := by
  have C0q := C0
  obtain ⟨hx, hb, hr, hml, hown, hts, hlocks, hK, hA⟩ := C0q
  intro z x1 x2 y0 y1 hf H locs ls hP hD hS hl
  unfold f_X11_opens_60 at hf
  refine lv_icmp_eq (tgt := 65) hx hb dX11_opens_60 (by decide) (fun c6 => ?_) (fun c6 => ?_)
  · have hf := (if_pos c6).symm.trans hf
    refine lv_aload_n hx hb dX11_opens_65 rfl (lv_at hl 0 rfl) ?_
    refine lv_iload_n hx hb dX11_opens_66 rfl (lv_at hl 1 rfl) ?_
    refine lv_iconst (v := 4) hx hb dX11_opens_67 (by decide) ?_
    refine lv_icmp_ne (tgt := 75) hx hb dX11_opens_68 (by decide) (fun c7 => ?_) (fun c7 => ?_)
    · have hf := (if_neg c7).symm.trans hf
      refine lv_iconst (v := 3) hx hb dX11_opens_75 (by decide) ?_
      exact w_X11_opens_76 C0 N _ _ _ _ hf _ _ _ hP hD hS (lv_sub hl [0, 1, 2] rfl)
    · have hf := (if_pos c7).symm.trans hf
      refine lv_iconst (v := 2) hx hb dX11_opens_71 (by decide) ?_
      refine lv_goto (tgt := 76) hx hb dX11_opens_72 (by decide) ?_
      exact w_X11_opens_76 C0 N _ _ _ _ hf _ _ _ hP hD hS (lv_sub hl [0, 1, 2] rfl)
  · have hf := (if_neg c6).symm.trans hf
    refine lv_iconst (v := 0) hx hb dX11_opens_63 (by decide) ?_
    exact ql_zret C0 (Or.inl rfl) hf hP hD hS dX11_opens_64
set_option maxHeartbeats 4000000 in
set_option maxRecDepth 100000 in
theorem w_X11_opens_11 {p : Program} {l : Launch} {e : Env} {s : State} {m : MethodId} {args : Array Value} {below : List Frame} {meth : Method} {c : Code} {dC : Nat → ClassId} {dI : Nat → Nat → Nat} {A : Nat → Prop} {h : Nat} {ad : Nat → Nat} {cI cZ cJ : ClassId} {res : Int32 × ql_Z} (C0 : ql_C p s m args meth c cX11_opens 3 (some .boolean) wsX11_opens RX11 (dC, dI) [(cI, .int), (cZ, .boolean), (cJ, .long)] A) (N : Nat) : ∀ (z : ql_Z) (x1 : Int32), f_X11_opens_11 N z x1 = some res → ∀ (H : Heap) (locs : List Loc) (ls : Array Slot), va_P (dC, dI) vwCl ((ql_mw h ad cI cZ cJ) z) H → va_D A ((ql_mw h ad cI cZ cJ) z) → va_S A s.heap H locs → lv_has ls 3 [(0, .ref h), (1, .int x1)] → W p l e rm_X11_opens s m args below meth c H locs 0 0 (ql_Qi below (dC, dI) (ql_mw h ad cI cZ cJ) A args s res) (F0 m 11 ls []) := by
  have C0q := C0
  obtain ⟨hx, hb, hr, hml, hown, hts, hlocks, hK, hA⟩ := C0q
  have fl173 := hts (Cond.fieldLink RX11 173 "TestedLoopsModel" "open" "I") (by decide +kernel)
  have fl153 := hts (Cond.fieldLink RX11 153 "TestedLoopsModel" "token" "I") (by decide +kernel)
  intro z x1 hf H locs ls hP hD hS hl
  unfold f_X11_opens_11 at hf
  refine lv_aload_n hx hb dX11_opens_11 rfl (lv_at hl 0 rfl) ?_
  refine va_get (D := (dC, dI)) (ci := 11) (v := .int (z.1 21 0)) (C := RX11) (T := TX11) (N := 41) hx hb hts iw_X11_opens_X11 hown hK.1 hP 0 rfl rfl 21 (by decide) fl173 (fun _ h9 => h9) rfl dX11_opens_12 ?_
  refine lv_bipush (v := 8) hx hb dX11_opens_15 (by decide) ?_
  refine lv_icmp_ne (tgt := 22) hx hb dX11_opens_17 (by decide) (fun c8 => ?_) (fun c8 => ?_)
  · have hf := (if_neg c8).symm.trans hf
    refine lv_aload_n hx hb dX11_opens_22 rfl (lv_at hl 0 rfl) ?_
    refine lv_dup hx hb dX11_opens_23 rfl ?_
    refine va_get (D := (dC, dI)) (ci := 11) (v := .int (z.1 21 0)) (C := RX11) (T := TX11) (N := 41) hx hb hts iw_X11_opens_X11 hown hK.1 hP 0 rfl rfl 21 (by decide) fl173 (fun _ h9 => h9) rfl dX11_opens_24 ?_
    refine lv_iconst (v := 1) hx hb dX11_opens_27 (by decide) ?_
    refine lv_iadd hx hb dX11_opens_28 ?_
    refine va_put (D := (dC, dI)) (ci := 11) (v := .int ((z.1 21 0) + 1)) (ty := .int) (C := RX11) (T := TX11) (N := 41) hx hb hts iw_X11_opens_X11 tyX11 tyX11_ok nmX11 hown hK.1 hP hD hS 0 rfl rfl 21 (by decide) fl173 (fun _ h9 => h9) rfl (by decide +kernel) rfl rfl (Nat.le_of_ble_eq_true rfl) dX11_opens_29 (fun H locs hP hD hS => ?_)
    refine lv_aload_n hx hb dX11_opens_32 rfl (lv_at hl 0 rfl) ?_
    obtain ⟨u9, hu9, hf⟩ := ql_bd hf
    refine ql_callVv (As := []) (rest := []) C0 (c_X11_scans l dC dI h ad cI cZ cJ N ((ql_up z.1 21 (fun _ => ((z.1 21 0) + 1))), z.2) u9 hu9) (cwV 0 hts gX11_opens_X11_scans rfl rfl rfl qv_X11_scans ⟨Nat.le_of_ble_eq_true rfl, Nat.le_of_ble_eq_true rfl⟩) (va_recv hK.1 hP (ci := 11) (q0 := 0) rfl rfl) hP hD hS hl.1 rfl rfl (Nat.le_of_ble_eq_true rfl) dX11_opens_33 (fun H locs hP hD hS => ?_)
    refine lv_aload_n hx hb dX11_opens_36 rfl (lv_at hl 0 rfl) ?_
    obtain ⟨u10, hu10, hf⟩ := ql_bd hf
    refine ql_callVi (As := []) (rest := []) C0 (c_X11_test l dC dI h ad cI cZ cJ N u9 u10 hu10) (cwV 0 hts gX11_opens_X11_test rfl rfl rfl qv_X11_test ⟨Nat.le_of_ble_eq_true rfl, Nat.le_of_ble_eq_true rfl⟩) (va_recv hK.1 hP (ci := 11) (q0 := 0) rfl rfl) hP hD hS hl.1 rfl rfl (Nat.le_of_ble_eq_true rfl) dX11_opens_37 (fun H locs hP hD hS => ?_)
    refine lv_istore_n (lv' := [(2, .int u10.1), (0, .ref h), (1, .int x1)]) hx hb dX11_opens_40 rfl hl (by decide) rfl (fun ls hl => ?_)
    refine lv_iload_n hx hb dX11_opens_41 rfl (lv_at hl 0 rfl) ?_
    refine lv_if_lt (tgt := 63) hx hb dX11_opens_42 (by decide) (fun c11 => ?_) (fun c11 => ?_)
    · have hf := (if_pos c11).symm.trans hf
      refine lv_iconst (v := 0) hx hb dX11_opens_63 (by decide) ?_
      exact ql_zret C0 (Or.inl rfl) hf hP hD hS dX11_opens_64
    · have hf := (if_neg c11).symm.trans hf
      refine lv_aload_n hx hb dX11_opens_45 rfl (lv_at hl 1 rfl) ?_
      refine va_get (D := (dC, dI)) (ci := 11) (v := .int (u10.2.1 15 0)) (C := RX11) (T := TX11) (N := 41) hx hb hts iw_X11_opens_X11 hown hK.1 hP 0 rfl rfl 15 (by decide) fl153 (fun _ h9 => h9) rfl dX11_opens_46 ?_
      refine lv_iload_n hx hb dX11_opens_49 rfl (lv_at hl 2 rfl) ?_
      refine lv_iconst (v := 4) hx hb dX11_opens_50 (by decide) ?_
      refine lv_icmp_ne (tgt := 58) hx hb dX11_opens_51 (by decide) (fun c12 => ?_) (fun c12 => ?_)
      · have hf := (if_neg c12).symm.trans hf
        refine lv_bipush (v := 9) hx hb dX11_opens_58 (by decide) ?_
        exact w_X11_opens_60 C0 N _ _ _ _ _ hf _ _ _ hP hD hS (lv_sub hl [1, 2, 0] rfl)
      · have hf := (if_pos c12).symm.trans hf
        refine lv_iconst (v := 5) hx hb dX11_opens_54 (by decide) ?_
        refine lv_goto (tgt := 60) hx hb dX11_opens_55 (by decide) ?_
        exact w_X11_opens_60 C0 N _ _ _ _ _ hf _ _ _ hP hD hS (lv_sub hl [1, 2, 0] rfl)
  · have hf := (if_pos c8).symm.trans hf
    refine lv_iconst (v := 0) hx hb dX11_opens_20 (by decide) ?_
    exact ql_zret C0 (Or.inl rfl) hf hP hD hS dX11_opens_21
set_option maxHeartbeats 4000000 in
set_option maxRecDepth 100000 in
theorem w_X11_opens_0 {p : Program} {l : Launch} {e : Env} {s : State} {m : MethodId} {args : Array Value} {below : List Frame} {meth : Method} {c : Code} {dC : Nat → ClassId} {dI : Nat → Nat → Nat} {A : Nat → Prop} {h : Nat} {ad : Nat → Nat} {cI cZ cJ : ClassId} {res : Int32 × ql_Z} (C0 : ql_C p s m args meth c cX11_opens 3 (some .boolean) wsX11_opens RX11 (dC, dI) [(cI, .int), (cZ, .boolean), (cJ, .long)] A) (N : Nat) : ∀ (z : ql_Z) (x1 : Int32), f_X11_opens_0 N z x1 = some res → ∀ (H : Heap) (locs : List Loc) (ls : Array Slot), va_P (dC, dI) vwCl ((ql_mw h ad cI cZ cJ) z) H → va_D A ((ql_mw h ad cI cZ cJ) z) → va_S A s.heap H locs → lv_has ls 3 [(0, .ref h), (1, .int x1)] → W p l e rm_X11_opens s m args below meth c H locs 0 0 (ql_Qi below (dC, dI) (ql_mw h ad cI cZ cJ) A args s res) (F0 m 0 ls []) := by
  have C0q := C0
  obtain ⟨hx, hb, hr, hml, hown, hts, hlocks, hK, hA⟩ := C0q
  intro z x1 hf H locs ls hP hD hS hl
  unfold f_X11_opens_0 at hf
  refine lv_iload_n hx hb dX11_opens_0 rfl (lv_at hl 1 rfl) ?_
  refine lv_iconst (v := 4) hx hb dX11_opens_1 (by decide) ?_
  refine lv_icmp_eq (tgt := 11) hx hb dX11_opens_2 (by decide) (fun c13 => ?_) (fun c13 => ?_)
  · have hf := (if_pos c13).symm.trans hf
    exact w_X11_opens_11 C0 N _ _ hf _ _ _ hP hD hS (lv_sub hl [0, 1] rfl)
  · have hf := (if_neg c13).symm.trans hf
    refine lv_iload_n hx hb dX11_opens_5 rfl (lv_at hl 1 rfl) ?_
    refine lv_bipush (v := 8) hx hb dX11_opens_6 (by decide) ?_
    refine lv_icmp_ne (tgt := 20) hx hb dX11_opens_8 (by decide) (fun c14 => ?_) (fun c14 => ?_)
    · have hf := (if_neg c14).symm.trans hf
      refine lv_iconst (v := 0) hx hb dX11_opens_20 (by decide) ?_
      exact ql_zret C0 (Or.inl rfl) hf hP hD hS dX11_opens_21
    · have hf := (if_pos c14).symm.trans hf
      exact w_X11_opens_11 C0 N _ _ hf _ _ _ hP hD hS (lv_sub hl [0, 1] rfl)
set_option maxRecDepth 100000 in
theorem c_X11_opens (l : Launch) (dC : Nat → ClassId) (dI : Nat → Nat → Nat) (h : Nat) (ad : Nat → Nat) (cI cZ cJ : ClassId) (N : Nat) (z : ql_Z) (x1 : Int32) (res : Int32 × ql_Z) (hf : f_X11_opens N z x1 = some res) : ql_Mi l yX11_opens wsX11_opens rm_X11_opens (dC, dI) [(cI, .int), (cZ, .boolean), (cJ, .long)] (ql_mw h ad cI cZ cJ) [.ref h, .int x1] z res :=
  ql_start_i (by decide) rfl (Nat.le_of_ble_eq_true rfl) (fun p e s m below meth c A ls C0 hl hP hD hS => w_X11_opens_0 C0 N z x1 hf s.heap [] ls hP hD hS (lv_sub (show lv_has ls 3 [(0, .ref h), (1, .int x1)] from hl) [0, 1] rfl))
/-! ===== TestedLoopsModel.begins()Z ===== -/
abbrev rm_X11_begins : Room := { frames := 5, cells := 0, slots := 0, locals := 108 }
theorem iw_X11_begins_X11 : ∀ w ∈ wsX110, w ∈ wsX11_begins := fun w h => List.mem_cons_of_mem _ (List.mem_append_right _ h)
theorem qv_X11_begins : yX11_begins.cls = RX11 ∧ yX11_begins.cls ≠ "java/lang/invoke/MethodHandle" ∧ yX11_begins.cls ≠ "java/lang/invoke/VarHandle" ∧ (parseMethodDescriptor yX11_begins.desc).map (fun d => d.parameters.length) = some 0 := by decide +kernel
def f_X11_begins_34 (N : Nat) (z : ql_Z) : Option (Int32 × ql_Z) := (f_X11_scans N z).bind fun u1 => some (1, u1)
def f_X11_begins_15 (N : Nat) (z : ql_Z) (x1 : Int32) : Option (Int32 × ql_Z) := (f_X11_notes N z 0 0).bind fun u2 => if x1 = 3 then (f_X11_puts N u2 3 0 0).bind fun u4 => f_X11_begins_34 N u4.2 else f_X11_begins_34 N u2
def f_X11_begins_0 (N : Nat) (z : ql_Z) : Option (Int32 × ql_Z) := if (z.1 15 0) = 2 then f_X11_begins_15 N z (z.1 15 0) else if (z.1 15 0) = 3 then f_X11_begins_15 N z (z.1 15 0) else (f_X11_in N ((z.1 15 0).toInt64) 14 16).bind fun u7 => if u7 = 0 then if (z.1 15 0) = 11 then (f_X11_scans N z).bind fun u11 => (f_X11_test N u11).bind fun u12 => if 0 ≤ u12.1 then (f_X11_sizeOf N u12.1).bind fun u14 => (f_X11_notes N u12.2 4 u14).bind fun u15 => (f_X11_puts N u15 1 u12.1 (-1)).bind fun u16 => some (1, u16.2) else some (0, u12.2) else (f_X11_opens N z (z.1 15 0)).bind fun u10 => if ql_bz u10.1 = true then some (u10.1, u10.2) else none else if ((z.1 9) 4) = 16 then some (0, z) else if ql_ib (68 + ((upd (z.1 9) 4 (((z.1 9) 4) + 1)) 4)) 85 = true then (f_X11_notes N ((ql_up (ql_up z.1 7 (upd (z.1 7) ((68 + ((upd (z.1 9) 4 (((z.1 9) 4) + 1)) 4)).toNatClampNeg) (((z.1 15 0) - 14) + 1))) 9 (upd (z.1 9) 4 (((z.1 9) 4) + 1))), z.2) 1 (((z.1 15 0) - 14) + 1)).bind fun u18 => (f_X11_puts N u18 0 ((u18.1 9) 4) 0).bind fun u19 => if ql_ib (68 + ((u18.1 9) 4)) 85 = true then (f_X11_scans N ((ql_up u19.2.1 8 (upd (u19.2.1 8) ((68 + ((u18.1 9) 4)).toNatClampNeg) (u19.1 + 1))), u19.2.2)).bind fun u20 => some (1, u20) else none else none
def f_X11_begins (N : Nat) (z : ql_Z) : Option (Int32 × ql_Z) := f_X11_begins_0 N z
set_option maxHeartbeats 4000000 in
set_option maxRecDepth 100000 in
theorem w_X11_begins_34 {p : Program} {l : Launch} {e : Env} {s : State} {m : MethodId} {args : Array Value} {below : List Frame} {meth : Method} {c : Code} {dC : Nat → ClassId} {dI : Nat → Nat → Nat} {A : Nat → Prop} {h : Nat} {ad : Nat → Nat} {cI cZ cJ : ClassId} {res : Int32 × ql_Z} (C0 : ql_C p s m args meth c cX11_begins 3 (some .boolean) wsX11_begins RX11 (dC, dI) [(cI, .int), (cZ, .boolean), (cJ, .long)] A) (N : Nat) : ∀ (z : ql_Z), f_X11_begins_34 N z = some res → ∀ (H : Heap) (locs : List Loc) (ls : Array Slot), va_P (dC, dI) vwCl ((ql_mw h ad cI cZ cJ) z) H → va_D A ((ql_mw h ad cI cZ cJ) z) → va_S A s.heap H locs → lv_has ls 3 [(0, .ref h)] → W p l e rm_X11_begins s m args below meth c H locs 0 0 (ql_Qi below (dC, dI) (ql_mw h ad cI cZ cJ) A args s res) (F0 m 34 ls []) := by
  have C0q := C0
  obtain ⟨hx, hb, hr, hml, hown, hts, hlocks, hK, hA⟩ := C0q
  intro z hf H locs ls hP hD hS hl
  unfold f_X11_begins_34 at hf
  refine lv_aload_n hx hb dX11_begins_34 rfl (lv_at hl 0 rfl) ?_
  obtain ⟨u1, hu1, hf⟩ := ql_bd hf
  refine ql_callVv (As := []) (rest := []) C0 (c_X11_scans l dC dI h ad cI cZ cJ N z u1 hu1) (cwV 0 hts gX11_begins_X11_scans rfl rfl rfl qv_X11_scans ⟨Nat.le_of_ble_eq_true rfl, Nat.le_of_ble_eq_true rfl⟩) (va_recv hK.1 hP (ci := 11) (q0 := 0) rfl rfl) hP hD hS hl.1 rfl rfl (Nat.le_of_ble_eq_true rfl) dX11_begins_35 (fun H locs hP hD hS => ?_)
  refine lv_iconst (v := 1) hx hb dX11_begins_38 (by decide) ?_
  exact ql_zret C0 (Or.inr rfl) hf hP hD hS dX11_begins_39
set_option maxHeartbeats 4000000 in
set_option maxRecDepth 100000 in
theorem w_X11_begins_15 {p : Program} {l : Launch} {e : Env} {s : State} {m : MethodId} {args : Array Value} {below : List Frame} {meth : Method} {c : Code} {dC : Nat → ClassId} {dI : Nat → Nat → Nat} {A : Nat → Prop} {h : Nat} {ad : Nat → Nat} {cI cZ cJ : ClassId} {res : Int32 × ql_Z} (C0 : ql_C p s m args meth c cX11_begins 3 (some .boolean) wsX11_begins RX11 (dC, dI) [(cI, .int), (cZ, .boolean), (cJ, .long)] A) (N : Nat) : ∀ (z : ql_Z) (x1 : Int32), f_X11_begins_15 N z x1 = some res → ∀ (H : Heap) (locs : List Loc) (ls : Array Slot), va_P (dC, dI) vwCl ((ql_mw h ad cI cZ cJ) z) H → va_D A ((ql_mw h ad cI cZ cJ) z) → va_S A s.heap H locs → lv_has ls 3 [(0, .ref h), (1, .int x1)] → W p l e rm_X11_begins s m args below meth c H locs 0 0 (ql_Qi below (dC, dI) (ql_mw h ad cI cZ cJ) A args s res) (F0 m 15 ls []) := by
  have C0q := C0
  obtain ⟨hx, hb, hr, hml, hown, hts, hlocks, hK, hA⟩ := C0q
  intro z x1 hf H locs ls hP hD hS hl
  unfold f_X11_begins_15 at hf
  refine lv_aload_n hx hb dX11_begins_15 rfl (lv_at hl 0 rfl) ?_
  refine lv_iconst (v := 0) hx hb dX11_begins_16 (by decide) ?_
  refine lv_iconst (v := 0) hx hb dX11_begins_17 (by decide) ?_
  obtain ⟨u2, hu2, hf⟩ := ql_bd hf
  refine ql_callVv (As := [.int 0, .int 0]) (rest := []) C0 (c_X11_notes l dC dI h ad cI cZ cJ N z 0 0 u2 hu2) (cwV 2 hts gX11_begins_X11_notes rfl rfl rfl qv_X11_notes ⟨Nat.le_of_ble_eq_true rfl, Nat.le_of_ble_eq_true rfl⟩) (va_recv hK.1 hP (ci := 11) (q0 := 0) rfl rfl) hP hD hS hl.1 rfl rfl (Nat.le_of_ble_eq_true rfl) dX11_begins_18 (fun H locs hP hD hS => ?_)
  refine lv_iload_n hx hb dX11_begins_21 rfl (lv_at hl 1 rfl) ?_
  refine lv_iconst (v := 3) hx hb dX11_begins_22 (by decide) ?_
  refine lv_icmp_ne (tgt := 34) hx hb dX11_begins_23 (by decide) (fun c3 => ?_) (fun c3 => ?_)
  · have hf := (if_neg c3).symm.trans hf
    exact w_X11_begins_34 C0 N _ hf _ _ _ hP hD hS (lv_sub hl [0] rfl)
  · have hf := (if_pos c3).symm.trans hf
    refine lv_aload_n hx hb dX11_begins_26 rfl (lv_at hl 0 rfl) ?_
    refine lv_iconst (v := 3) hx hb dX11_begins_27 (by decide) ?_
    refine lv_iconst (v := 0) hx hb dX11_begins_28 (by decide) ?_
    refine lv_iconst (v := 0) hx hb dX11_begins_29 (by decide) ?_
    obtain ⟨u4, hu4, hf⟩ := ql_bd hf
    refine ql_callVi (As := [.int 3, .int 0, .int 0]) (rest := []) C0 (c_X11_puts l dC dI h ad cI cZ cJ N u2 3 0 0 u4 hu4) (cwV 3 hts gX11_begins_X11_puts rfl rfl rfl qv_X11_puts ⟨Nat.le_of_ble_eq_true rfl, Nat.le_of_ble_eq_true rfl⟩) (va_recv hK.1 hP (ci := 11) (q0 := 0) rfl rfl) hP hD hS hl.1 rfl rfl (Nat.le_of_ble_eq_true rfl) dX11_begins_30 (fun H locs hP hD hS => ?_)
    refine lv_pop hx hb dX11_begins_33 rfl ?_
    exact w_X11_begins_34 C0 N _ hf _ _ _ hP hD hS (lv_sub hl [0] rfl)
set_option maxHeartbeats 4000000 in
set_option maxRecDepth 100000 in
theorem w_X11_begins_0 {p : Program} {l : Launch} {e : Env} {s : State} {m : MethodId} {args : Array Value} {below : List Frame} {meth : Method} {c : Code} {dC : Nat → ClassId} {dI : Nat → Nat → Nat} {A : Nat → Prop} {h : Nat} {ad : Nat → Nat} {cI cZ cJ : ClassId} {res : Int32 × ql_Z} (C0 : ql_C p s m args meth c cX11_begins 3 (some .boolean) wsX11_begins RX11 (dC, dI) [(cI, .int), (cZ, .boolean), (cJ, .long)] A) (N : Nat) : ∀ (z : ql_Z), f_X11_begins_0 N z = some res → ∀ (H : Heap) (locs : List Loc) (ls : Array Slot), va_P (dC, dI) vwCl ((ql_mw h ad cI cZ cJ) z) H → va_D A ((ql_mw h ad cI cZ cJ) z) → va_S A s.heap H locs → lv_has ls 3 [(0, .ref h)] → W p l e rm_X11_begins s m args below meth c H locs 0 0 (ql_Qi below (dC, dI) (ql_mw h ad cI cZ cJ) A args s res) (F0 m 0 ls []) := by
  have C0q := C0
  obtain ⟨hx, hb, hr, hml, hown, hts, hlocks, hK, hA⟩ := C0q
  have fl153 := hts (Cond.fieldLink RX11 153 "TestedLoopsModel" "token" "I") (by decide +kernel)
  have fl200 := hts (Cond.constantLong RX11 200 (14)) (by decide +kernel)
  have fl122 := hts (Cond.constantLong RX11 122 (16)) (by decide +kernel)
  have fl31 := hts (Cond.fieldLink RX11 31 "TestedLoopsModel" "many" "[I") (by decide +kernel)
  have fl25 := hts (Cond.fieldLink RX11 25 "TestedLoopsModel" "acts" "[I") (by decide +kernel)
  have fl28 := hts (Cond.fieldLink RX11 28 "TestedLoopsModel" "behind" "[I") (by decide +kernel)
  intro z hf H locs ls hP hD hS hl
  unfold f_X11_begins_0 at hf
  refine lv_aload_n hx hb dX11_begins_0 rfl (lv_at hl 0 rfl) ?_
  refine va_get (D := (dC, dI)) (ci := 11) (v := .int (z.1 15 0)) (C := RX11) (T := TX11) (N := 41) hx hb hts iw_X11_begins_X11 hown hK.1 hP 0 rfl rfl 15 (by decide) fl153 (fun _ h9 => h9) rfl dX11_begins_1 ?_
  refine lv_istore_n (lv' := [(1, .int (z.1 15 0)), (0, .ref h)]) hx hb dX11_begins_4 rfl hl (by decide) rfl (fun ls hl => ?_)
  refine lv_iload_n hx hb dX11_begins_5 rfl (lv_at hl 0 rfl) ?_
  refine lv_iconst (v := 2) hx hb dX11_begins_6 (by decide) ?_
  refine lv_icmp_eq (tgt := 15) hx hb dX11_begins_7 (by decide) (fun c5 => ?_) (fun c5 => ?_)
  · have hf := (if_pos c5).symm.trans hf
    exact w_X11_begins_15 C0 N _ _ hf _ _ _ hP hD hS (lv_sub hl [1, 0] rfl)
  · have hf := (if_neg c5).symm.trans hf
    refine lv_iload_n hx hb dX11_begins_10 rfl (lv_at hl 0 rfl) ?_
    refine lv_iconst (v := 3) hx hb dX11_begins_11 (by decide) ?_
    refine lv_icmp_ne (tgt := 40) hx hb dX11_begins_12 (by decide) (fun c6 => ?_) (fun c6 => ?_)
    · have hf := (if_neg c6).symm.trans hf
      refine lv_iload_n hx hb dX11_begins_40 rfl (lv_at hl 0 rfl) ?_
      refine lv_i2l hx hb dX11_begins_41 rfl ?_
      refine lv_ldc2 hx hb hown fl200 dX11_begins_42 ?_
      refine lv_ldc2 hx hb hown fl122 dX11_begins_45 ?_
      obtain ⟨u7, hu7, hf⟩ := ql_bd hf
      refine ql_callRSi (As := [.long ((z.1 15 0).toInt64), .long 14, .long 16]) (rest := []) C0 (c_X11_in l dC dI N ((z.1 15 0).toInt64) 14 16 u7 hu7) (va_cwS 3 hts gX11_begins_X11_in rfl rfl rfl qd_X11_in ⟨Nat.le_of_ble_eq_true rfl, Nat.le_of_ble_eq_true rfl⟩) (hK.sub [] rfl) ql_nil hS hl.1 rfl rfl (Nat.le_of_ble_eq_true rfl) dX11_begins_48 (fun H1 locs hk hS => ?_)
      have hP := ql_keep hP hk
      refine lv_if_eq (tgt := 142) hx hb dX11_begins_51 (by decide) (fun c8 => ?_) (fun c8 => ?_)
      · have hf := (if_pos c8).symm.trans hf
        refine lv_iload_n hx hb dX11_begins_142 rfl (lv_at hl 0 rfl) ?_
        refine lv_bipush (v := 11) hx hb dX11_begins_143 (by decide) ?_
        refine lv_icmp_ne (tgt := 182) hx hb dX11_begins_145 (by decide) (fun c9 => ?_) (fun c9 => ?_)
        · have hf := (if_neg c9).symm.trans hf
          refine lv_aload_n hx hb dX11_begins_182 rfl (lv_at hl 1 rfl) ?_
          refine lv_iload_n hx hb dX11_begins_183 rfl (lv_at hl 0 rfl) ?_
          obtain ⟨u10, hu10, hf⟩ := ql_bd hf
          refine ql_callVi (As := [.int (z.1 15 0)]) (rest := []) C0 (c_X11_opens l dC dI h ad cI cZ cJ N z (z.1 15 0) u10 hu10) (cwV 1 hts gX11_begins_X11_opens rfl rfl rfl qv_X11_opens ⟨Nat.le_of_ble_eq_true rfl, Nat.le_of_ble_eq_true rfl⟩) (va_recv hK.1 hP (ci := 11) (q0 := 0) rfl rfl) hP hD hS hl.1 rfl rfl (Nat.le_of_ble_eq_true rfl) dX11_begins_184 (fun H locs hP hD hS => ?_)
          exact ql_zret C0 (ql_bzo (ql_gt hf)) (ql_gx hf) hP hD hS dX11_begins_187
        · have hf := (if_pos c9).symm.trans hf
          refine lv_aload_n hx hb dX11_begins_148 rfl (lv_at hl 1 rfl) ?_
          obtain ⟨u11, hu11, hf⟩ := ql_bd hf
          refine ql_callVv (As := []) (rest := []) C0 (c_X11_scans l dC dI h ad cI cZ cJ N z u11 hu11) (cwV 0 hts gX11_begins_X11_scans rfl rfl rfl qv_X11_scans ⟨Nat.le_of_ble_eq_true rfl, Nat.le_of_ble_eq_true rfl⟩) (va_recv hK.1 hP (ci := 11) (q0 := 0) rfl rfl) hP hD hS hl.1 rfl rfl (Nat.le_of_ble_eq_true rfl) dX11_begins_149 (fun H locs hP hD hS => ?_)
          refine lv_aload_n hx hb dX11_begins_152 rfl (lv_at hl 1 rfl) ?_
          obtain ⟨u12, hu12, hf⟩ := ql_bd hf
          refine ql_callVi (As := []) (rest := []) C0 (c_X11_test l dC dI h ad cI cZ cJ N u11 u12 hu12) (cwV 0 hts gX11_begins_X11_test rfl rfl rfl qv_X11_test ⟨Nat.le_of_ble_eq_true rfl, Nat.le_of_ble_eq_true rfl⟩) (va_recv hK.1 hP (ci := 11) (q0 := 0) rfl rfl) hP hD hS hl.1 rfl rfl (Nat.le_of_ble_eq_true rfl) dX11_begins_153 (fun H locs hP hD hS => ?_)
          refine lv_istore_n (lv' := [(2, .int u12.1), (1, .int (z.1 15 0)), (0, .ref h)]) hx hb dX11_begins_156 rfl hl (by decide) rfl (fun ls hl => ?_)
          refine lv_iload_n hx hb dX11_begins_157 rfl (lv_at hl 0 rfl) ?_
          refine lv_if_ge (tgt := 163) hx hb dX11_begins_158 (by decide) (fun c13 => ?_) (fun c13 => ?_)
          · have hf := (if_pos c13).symm.trans hf
            refine lv_aload_n hx hb dX11_begins_163 rfl (lv_at hl 2 rfl) ?_
            refine lv_iconst (v := 4) hx hb dX11_begins_164 (by decide) ?_
            refine lv_iload_n hx hb dX11_begins_165 rfl (lv_at hl 0 rfl) ?_
            obtain ⟨u14, hu14, hf⟩ := ql_bd hf
            refine ql_callRSi (As := [.int u12.1]) (rest := [.int 4, .ref h]) C0 (c_X11_sizeOf l dC dI N u12.1 u14 hu14) (va_cwS 1 hts gX11_begins_X11_sizeOf rfl rfl rfl qd_X11_sizeOf ⟨Nat.le_of_ble_eq_true rfl, Nat.le_of_ble_eq_true rfl⟩) (hK.sub [] rfl) ql_nil hS hl.1 rfl rfl (Nat.le_of_ble_eq_true rfl) dX11_begins_166 (fun H1 locs hk hS => ?_)
            have hP := ql_keep hP hk
            obtain ⟨u15, hu15, hf⟩ := ql_bd hf
            refine ql_callVv (As := [.int 4, .int u14]) (rest := []) C0 (c_X11_notes l dC dI h ad cI cZ cJ N u12.2 4 u14 u15 hu15) (cwV 2 hts gX11_begins_X11_notes rfl rfl rfl qv_X11_notes ⟨Nat.le_of_ble_eq_true rfl, Nat.le_of_ble_eq_true rfl⟩) (va_recv hK.1 hP (ci := 11) (q0 := 0) rfl rfl) hP hD hS hl.1 rfl rfl (Nat.le_of_ble_eq_true rfl) dX11_begins_169 (fun H locs hP hD hS => ?_)
            refine lv_aload_n hx hb dX11_begins_172 rfl (lv_at hl 2 rfl) ?_
            refine lv_iconst (v := 1) hx hb dX11_begins_173 (by decide) ?_
            refine lv_iload_n hx hb dX11_begins_174 rfl (lv_at hl 0 rfl) ?_
            refine lv_iconst (v := (-1)) hx hb dX11_begins_175 (by decide) ?_
            obtain ⟨u16, hu16, hf⟩ := ql_bd hf
            refine ql_callVi (As := [.int 1, .int u12.1, .int (-1)]) (rest := []) C0 (c_X11_puts l dC dI h ad cI cZ cJ N u15 1 u12.1 (-1) u16 hu16) (cwV 3 hts gX11_begins_X11_puts rfl rfl rfl qv_X11_puts ⟨Nat.le_of_ble_eq_true rfl, Nat.le_of_ble_eq_true rfl⟩) (va_recv hK.1 hP (ci := 11) (q0 := 0) rfl rfl) hP hD hS hl.1 rfl rfl (Nat.le_of_ble_eq_true rfl) dX11_begins_176 (fun H locs hP hD hS => ?_)
            refine lv_pop hx hb dX11_begins_179 rfl ?_
            refine lv_iconst (v := 1) hx hb dX11_begins_180 (by decide) ?_
            exact ql_zret C0 (Or.inr rfl) hf hP hD hS dX11_begins_181
          · have hf := (if_neg c13).symm.trans hf
            refine lv_iconst (v := 0) hx hb dX11_begins_161 (by decide) ?_
            exact ql_zret C0 (Or.inl rfl) hf hP hD hS dX11_begins_162
      · have hf := (if_neg c8).symm.trans hf
        refine lv_aload_n hx hb dX11_begins_54 rfl (lv_at hl 1 rfl) ?_
        refine va_get (D := (dC, dI)) (ci := 11) (v := .ref (ad 9)) (C := RX11) (T := TX11) (N := 41) hx hb hts iw_X11_begins_X11 hown hK.1 hP 0 rfl rfl 9 (by decide) fl31 (fun _ h9 => h9) rfl dX11_begins_55 ?_
        refine lv_iconst (v := 4) hx hb dX11_begins_58 (by decide) ?_
        refine va_iald (f := (z.1 9)) hx hb hK.1 hP 8 0 rfl rfl (ql_in (i := 4) (n := 5) (by decide)) dX11_begins_59 ?_
        refine ql_tv (y := (z.1 9) 4) (congrArg (z.1 9) (by decide)) ?_
        refine lv_bipush (v := 16) hx hb dX11_begins_60 (by decide) ?_
        refine lv_icmp_ne (tgt := 67) hx hb dX11_begins_62 (by decide) (fun c17 => ?_) (fun c17 => ?_)
        · have hf := (if_neg c17).symm.trans hf
          refine lv_aload_n hx hb dX11_begins_67 rfl (lv_at hl 1 rfl) ?_
          refine va_get (D := (dC, dI)) (ci := 11) (v := .ref (ad 9)) (C := RX11) (T := TX11) (N := 41) hx hb hts iw_X11_begins_X11 hown hK.1 hP 0 rfl rfl 9 (by decide) fl31 (fun _ h9 => h9) rfl dX11_begins_68 ?_
          refine lv_iconst (v := 4) hx hb dX11_begins_71 (by decide) ?_
          refine lv_dup2_11 hx hb dX11_begins_72 rfl rfl ?_
          refine va_iald (f := (z.1 9)) hx hb hK.1 hP 8 0 rfl rfl (ql_in (i := 4) (n := 5) (by decide)) dX11_begins_73 ?_
          refine ql_tv (y := (z.1 9) 4) (congrArg (z.1 9) (by decide)) ?_
          refine lv_iconst (v := 1) hx hb dX11_begins_74 (by decide) ?_
          refine lv_iadd hx hb dX11_begins_75 ?_
          refine va_iast (f := (z.1 9)) hx hb hK.1 hP hD hS 8 0 rfl rfl (ql_in (i := 4) (n := 5) (by decide)) dX11_begins_76 (fun H locs hP hD hS => ?_)
          refine lv_aload_n hx hb dX11_begins_77 rfl (lv_at hl 1 rfl) ?_
          refine va_get (D := (dC, dI)) (ci := 11) (v := .ref (ad 7)) (C := RX11) (T := TX11) (N := 41) hx hb hts iw_X11_begins_X11 hown hK.1 hP 0 rfl rfl 7 (by decide) fl25 (fun _ h9 => h9) rfl dX11_begins_78 ?_
          refine lv_bipush (v := 68) hx hb dX11_begins_81 (by decide) ?_
          refine lv_aload_n hx hb dX11_begins_83 rfl (lv_at hl 1 rfl) ?_
          refine va_get (D := (dC, dI)) (ci := 11) (v := .ref (ad 9)) (C := RX11) (T := TX11) (N := 41) hx hb hts iw_X11_begins_X11 hown hK.1 hP 0 rfl rfl 9 (by decide) fl31 (fun _ h9 => h9) rfl dX11_begins_84 ?_
          refine lv_iconst (v := 4) hx hb dX11_begins_87 (by decide) ?_
          refine va_iald (f := (upd (z.1 9) 4 (((z.1 9) 4) + 1))) hx hb hK.1 hP 8 0 rfl rfl (ql_in (i := 4) (n := 5) (by decide)) dX11_begins_88 ?_
          refine ql_tv (y := (upd (z.1 9) 4 (((z.1 9) 4) + 1)) 4) (congrArg (upd (z.1 9) 4 (((z.1 9) 4) + 1)) (by decide)) ?_
          refine lv_iadd hx hb dX11_begins_89 ?_
          refine lv_iload_n hx hb dX11_begins_90 rfl (lv_at hl 0 rfl) ?_
          refine lv_bipush (v := 14) hx hb dX11_begins_91 (by decide) ?_
          refine lv_isub hx hb dX11_begins_93 ?_
          refine lv_iconst (v := 1) hx hb dX11_begins_94 (by decide) ?_
          refine lv_iadd hx hb dX11_begins_95 ?_
          have g0 := ql_in (ql_gt hf)
          have hf := ql_gx hf
          refine va_iast (f := (z.1 7)) hx hb hK.1 hP hD hS 6 0 rfl rfl g0 dX11_begins_96 (fun H locs hP hD hS => ?_)
          refine lv_aload_n hx hb dX11_begins_97 rfl (lv_at hl 1 rfl) ?_
          refine lv_iconst (v := 1) hx hb dX11_begins_98 (by decide) ?_
          refine lv_iload_n hx hb dX11_begins_99 rfl (lv_at hl 0 rfl) ?_
          refine lv_bipush (v := 14) hx hb dX11_begins_100 (by decide) ?_
          refine lv_isub hx hb dX11_begins_102 ?_
          refine lv_iconst (v := 1) hx hb dX11_begins_103 (by decide) ?_
          refine lv_iadd hx hb dX11_begins_104 ?_
          obtain ⟨u18, hu18, hf⟩ := ql_bd hf
          refine ql_callVv (As := [.int 1, .int (((z.1 15 0) - 14) + 1)]) (rest := []) C0 (c_X11_notes l dC dI h ad cI cZ cJ N ((ql_up (ql_up z.1 7 (upd (z.1 7) ((68 + ((upd (z.1 9) 4 (((z.1 9) 4) + 1)) 4)).toNatClampNeg) (((z.1 15 0) - 14) + 1))) 9 (upd (z.1 9) 4 (((z.1 9) 4) + 1))), z.2) 1 (((z.1 15 0) - 14) + 1) u18 hu18) (cwV 2 hts gX11_begins_X11_notes rfl rfl rfl qv_X11_notes ⟨Nat.le_of_ble_eq_true rfl, Nat.le_of_ble_eq_true rfl⟩) (va_recv hK.1 hP (ci := 11) (q0 := 0) rfl rfl) hP hD hS hl.1 rfl rfl (Nat.le_of_ble_eq_true rfl) dX11_begins_105 (fun H locs hP hD hS => ?_)
          refine lv_aload_n hx hb dX11_begins_108 rfl (lv_at hl 1 rfl) ?_
          refine va_get (D := (dC, dI)) (ci := 11) (v := .ref (ad 8)) (C := RX11) (T := TX11) (N := 41) hx hb hts iw_X11_begins_X11 hown hK.1 hP 0 rfl rfl 8 (by decide) fl28 (fun _ h9 => h9) rfl dX11_begins_109 ?_
          refine lv_bipush (v := 68) hx hb dX11_begins_112 (by decide) ?_
          refine lv_aload_n hx hb dX11_begins_114 rfl (lv_at hl 1 rfl) ?_
          refine va_get (D := (dC, dI)) (ci := 11) (v := .ref (ad 9)) (C := RX11) (T := TX11) (N := 41) hx hb hts iw_X11_begins_X11 hown hK.1 hP 0 rfl rfl 9 (by decide) fl31 (fun _ h9 => h9) rfl dX11_begins_115 ?_
          refine lv_iconst (v := 4) hx hb dX11_begins_118 (by decide) ?_
          refine va_iald (f := (u18.1 9)) hx hb hK.1 hP 8 0 rfl rfl (ql_in (i := 4) (n := 5) (by decide)) dX11_begins_119 ?_
          refine ql_tv (y := (u18.1 9) 4) (congrArg (u18.1 9) (by decide)) ?_
          refine lv_iadd hx hb dX11_begins_120 ?_
          refine lv_aload_n hx hb dX11_begins_121 rfl (lv_at hl 1 rfl) ?_
          refine lv_iconst (v := 0) hx hb dX11_begins_122 (by decide) ?_
          refine lv_aload_n hx hb dX11_begins_123 rfl (lv_at hl 1 rfl) ?_
          refine va_get (D := (dC, dI)) (ci := 11) (v := .ref (ad 9)) (C := RX11) (T := TX11) (N := 41) hx hb hts iw_X11_begins_X11 hown hK.1 hP 0 rfl rfl 9 (by decide) fl31 (fun _ h9 => h9) rfl dX11_begins_124 ?_
          refine lv_iconst (v := 4) hx hb dX11_begins_127 (by decide) ?_
          refine va_iald (f := (u18.1 9)) hx hb hK.1 hP 8 0 rfl rfl (ql_in (i := 4) (n := 5) (by decide)) dX11_begins_128 ?_
          refine ql_tv (y := (u18.1 9) 4) (congrArg (u18.1 9) (by decide)) ?_
          refine lv_iconst (v := 0) hx hb dX11_begins_129 (by decide) ?_
          obtain ⟨u19, hu19, hf⟩ := ql_bd hf
          refine ql_callVi (As := [.int 0, .int ((u18.1 9) 4), .int 0]) (rest := [.int (68 + ((u18.1 9) 4)), .ref (ad 8)]) C0 (c_X11_puts l dC dI h ad cI cZ cJ N u18 0 ((u18.1 9) 4) 0 u19 hu19) (cwV 3 hts gX11_begins_X11_puts rfl rfl rfl qv_X11_puts ⟨Nat.le_of_ble_eq_true rfl, Nat.le_of_ble_eq_true rfl⟩) (va_recv hK.1 hP (ci := 11) (q0 := 0) rfl rfl) hP hD hS hl.1 rfl rfl (Nat.le_of_ble_eq_true rfl) dX11_begins_130 (fun H locs hP hD hS => ?_)
          refine lv_iconst (v := 1) hx hb dX11_begins_133 (by decide) ?_
          refine lv_iadd hx hb dX11_begins_134 ?_
          have g0 := ql_in (ql_gt hf)
          have hf := ql_gx hf
          refine va_iast (f := (u19.2.1 8)) hx hb hK.1 hP hD hS 7 0 rfl rfl g0 dX11_begins_135 (fun H locs hP hD hS => ?_)
          refine lv_aload_n hx hb dX11_begins_136 rfl (lv_at hl 1 rfl) ?_
          obtain ⟨u20, hu20, hf⟩ := ql_bd hf
          refine ql_callVv (As := []) (rest := []) C0 (c_X11_scans l dC dI h ad cI cZ cJ N ((ql_up u19.2.1 8 (upd (u19.2.1 8) ((68 + ((u18.1 9) 4)).toNatClampNeg) (u19.1 + 1))), u19.2.2) u20 hu20) (cwV 0 hts gX11_begins_X11_scans rfl rfl rfl qv_X11_scans ⟨Nat.le_of_ble_eq_true rfl, Nat.le_of_ble_eq_true rfl⟩) (va_recv hK.1 hP (ci := 11) (q0 := 0) rfl rfl) hP hD hS hl.1 rfl rfl (Nat.le_of_ble_eq_true rfl) dX11_begins_137 (fun H locs hP hD hS => ?_)
          refine lv_iconst (v := 1) hx hb dX11_begins_140 (by decide) ?_
          exact ql_zret C0 (Or.inr rfl) hf hP hD hS dX11_begins_141
        · have hf := (if_pos c17).symm.trans hf
          refine lv_iconst (v := 0) hx hb dX11_begins_65 (by decide) ?_
          exact ql_zret C0 (Or.inl rfl) hf hP hD hS dX11_begins_66
    · have hf := (if_pos c6).symm.trans hf
      exact w_X11_begins_15 C0 N _ _ hf _ _ _ hP hD hS (lv_sub hl [1, 0] rfl)
set_option maxRecDepth 100000 in
theorem c_X11_begins (l : Launch) (dC : Nat → ClassId) (dI : Nat → Nat → Nat) (h : Nat) (ad : Nat → Nat) (cI cZ cJ : ClassId) (N : Nat) (z : ql_Z) (res : Int32 × ql_Z) (hf : f_X11_begins N z = some res) : ql_Mi l yX11_begins wsX11_begins rm_X11_begins (dC, dI) [(cI, .int), (cZ, .boolean), (cJ, .long)] (ql_mw h ad cI cZ cJ) [.ref h] z res :=
  ql_start_i (by decide) rfl (Nat.le_of_ble_eq_true rfl) (fun p e s m below meth c A ls C0 hl hP hD hS => w_X11_begins_0 C0 N z hf s.heap [] ls hP hD hS (lv_sub (show lv_has ls 3 [(0, .ref h)] from hl) [0] rfl))
/-! ===== TestedLoopsModel.follows()I ===== -/
abbrev rm_X11_follows : Room := { frames := 3, cells := 0, slots := 0, locals := 65 }
theorem iw_X11_follows_X11 : ∀ w ∈ wsX110, w ∈ wsX11_follows := fun w h => List.mem_cons_of_mem _ (List.mem_append_right _ h)
theorem qv_X11_follows : yX11_follows.cls = RX11 ∧ yX11_follows.cls ≠ "java/lang/invoke/MethodHandle" ∧ yX11_follows.cls ≠ "java/lang/invoke/VarHandle" ∧ (parseMethodDescriptor yX11_follows.desc).map (fun d => d.parameters.length) = some 0 := by decide +kernel
def f_X11_follows_184 (N : Nat) (z : ql_Z) : Option (Int32 × ql_Z) := (f_X11_scans N ((ql_up (ql_up z.1 21 (fun _ => ((z.1 21 0) - 1))) 25 (fun _ => ((z.1 25 0) - 1))), z.2)).bind fun u1 => some (2, u1)
def f_X11_follows_181 (N : Nat) (z : ql_Z) (y0 : Int32) : Option (Int32 × ql_Z) := (f_X11_lands N z y0).bind fun u2 => f_X11_follows_184 N u2
def f_X11_follows_114 (N : Nat) (z : ql_Z) (x1 : Int32) (y0 : Int32) : Option (Int32 × ql_Z) := if y0 = 0 then some (0, z) else if ql_ib x1 9 = true then if ((z.1 24) x1.toNatClampNeg) = 0 then if ql_ib x1 9 = true then if 0 ≤ ((z.1 23) x1.toNatClampNeg) then if ql_ib x1 9 = true then f_X11_follows_181 N z ((z.1 23) x1.toNatClampNeg) else none else if ql_ib x1 9 = true then f_X11_follows_181 N z ((z.1 22) x1.toNatClampNeg) else none else none else if ql_ib x1 9 = true then (f_X11_puts N z 2 0 ((z.1 22) x1.toNatClampNeg)).bind fun u6 => if ql_ib x1 9 = true then (f_X11_lands N u6.2 ((u6.2.1 22) x1.toNatClampNeg)).bind fun u7 => f_X11_follows_184 N u7 else none else none else none
def f_X11_follows_113 (N : Nat) (z : ql_Z) (x1 : Int32) : Option (Int32 × ql_Z) := f_X11_follows_114 N z x1 0
def f_X11_follows_106 (N : Nat) (z : ql_Z) (x1 : Int32) (y0 : Int32) (y1 : Int32) : Option (Int32 × ql_Z) := if y1 = y0 then f_X11_follows_114 N z x1 1 else f_X11_follows_113 N z x1
def f_X11_follows_82 (N : Nat) (z : ql_Z) (x1 : Int32) : Option (Int32 × ql_Z) := if x1 < 0 then f_X11_follows_113 N z x1 else if ql_ib x1 9 = true then if ((z.1 24) x1.toNatClampNeg) = 0 then f_X11_follows_106 N z x1 7 (z.1 15 0) else f_X11_follows_106 N z x1 10 (z.1 15 0) else none
def f_X11_follows_0 (N : Nat) (z : ql_Z) : Option (Int32 × ql_Z) := if (z.1 15 0) = 19 then (f_X11_scans N z).bind fun u19 => some (1, u19) else if (z.1 15 0) = 6 then if ((z.1 25 0) - 1) < 0 then f_X11_follows_82 N z ((z.1 25 0) - 1) else if ql_ib ((z.1 25 0) - 1) 9 = true then if ((z.1 24) ((z.1 25 0) - 1).toNatClampNeg) = 0 then if ql_ib ((z.1 25 0) - 1) 9 = true then if 0 ≤ ((z.1 23) ((z.1 25 0) - 1).toNatClampNeg) then f_X11_follows_82 N z ((z.1 25 0) - 1) else (f_X11_puts N z 2 0 0).bind fun u16 => if ql_ib ((z.1 25 0) - 1) 9 = true then if ql_ib ((z.1 25 0) - 1) 9 = true then (f_X11_lands N ((ql_up u16.2.1 23 (upd (u16.2.1 23) (((z.1 25 0) - 1).toNatClampNeg) u16.1)), u16.2.2) ((u16.2.1 22) ((z.1 25 0) - 1).toNatClampNeg)).bind fun u17 => (f_X11_scans N u17).bind fun u18 => some (1, u18) else none else none else none else f_X11_follows_82 N z ((z.1 25 0) - 1) else none else f_X11_follows_82 N z ((z.1 25 0) - 1)
def f_X11_follows (N : Nat) (z : ql_Z) : Option (Int32 × ql_Z) := f_X11_follows_0 N z
set_option maxHeartbeats 4000000 in
set_option maxRecDepth 100000 in
theorem w_X11_follows_184 {p : Program} {l : Launch} {e : Env} {s : State} {m : MethodId} {args : Array Value} {below : List Frame} {meth : Method} {c : Code} {dC : Nat → ClassId} {dI : Nat → Nat → Nat} {A : Nat → Prop} {h : Nat} {ad : Nat → Nat} {cI cZ cJ : ClassId} {res : Int32 × ql_Z} (C0 : ql_C p s m args meth c cX11_follows 3 (some .int) wsX11_follows RX11 (dC, dI) [(cI, .int), (cZ, .boolean), (cJ, .long)] A) (N : Nat) : ∀ (z : ql_Z), f_X11_follows_184 N z = some res → ∀ (H : Heap) (locs : List Loc) (ls : Array Slot), va_P (dC, dI) vwCl ((ql_mw h ad cI cZ cJ) z) H → va_D A ((ql_mw h ad cI cZ cJ) z) → va_S A s.heap H locs → lv_has ls 3 [(0, .ref h)] → W p l e rm_X11_follows s m args below meth c H locs 0 0 (ql_Qi below (dC, dI) (ql_mw h ad cI cZ cJ) A args s res) (F0 m 184 ls []) := by
  have C0q := C0
  obtain ⟨hx, hb, hr, hml, hown, hts, hlocks, hK, hA⟩ := C0q
  have fl212 := hts (Cond.fieldLink RX11 212 "TestedLoopsModel" "frames" "I") (by decide +kernel)
  have fl173 := hts (Cond.fieldLink RX11 173 "TestedLoopsModel" "open" "I") (by decide +kernel)
  intro z hf H locs ls hP hD hS hl
  unfold f_X11_follows_184 at hf
  refine lv_aload_n hx hb dX11_follows_184 rfl (lv_at hl 0 rfl) ?_
  refine lv_dup hx hb dX11_follows_185 rfl ?_
  refine va_get (D := (dC, dI)) (ci := 11) (v := .int (z.1 25 0)) (C := RX11) (T := TX11) (N := 41) hx hb hts iw_X11_follows_X11 hown hK.1 hP 0 rfl rfl 25 (by decide) fl212 (fun _ h9 => h9) rfl dX11_follows_186 ?_
  refine lv_iconst (v := 1) hx hb dX11_follows_189 (by decide) ?_
  refine lv_isub hx hb dX11_follows_190 ?_
  refine va_put (D := (dC, dI)) (ci := 11) (v := .int ((z.1 25 0) - 1)) (ty := .int) (C := RX11) (T := TX11) (N := 41) hx hb hts iw_X11_follows_X11 tyX11 tyX11_ok nmX11 hown hK.1 hP hD hS 0 rfl rfl 25 (by decide) fl212 (fun _ h9 => h9) rfl (by decide +kernel) rfl rfl (Nat.le_of_ble_eq_true rfl) dX11_follows_191 (fun H locs hP hD hS => ?_)
  refine lv_aload_n hx hb dX11_follows_194 rfl (lv_at hl 0 rfl) ?_
  refine lv_dup hx hb dX11_follows_195 rfl ?_
  refine va_get (D := (dC, dI)) (ci := 11) (v := .int (z.1 21 0)) (C := RX11) (T := TX11) (N := 41) hx hb hts iw_X11_follows_X11 hown hK.1 hP 0 rfl rfl 21 (by decide) fl173 (fun _ h9 => h9) rfl dX11_follows_196 ?_
  refine lv_iconst (v := 1) hx hb dX11_follows_199 (by decide) ?_
  refine lv_isub hx hb dX11_follows_200 ?_
  refine va_put (D := (dC, dI)) (ci := 11) (v := .int ((z.1 21 0) - 1)) (ty := .int) (C := RX11) (T := TX11) (N := 41) hx hb hts iw_X11_follows_X11 tyX11 tyX11_ok nmX11 hown hK.1 hP hD hS 0 rfl rfl 21 (by decide) fl173 (fun _ h9 => h9) rfl (by decide +kernel) rfl rfl (Nat.le_of_ble_eq_true rfl) dX11_follows_201 (fun H locs hP hD hS => ?_)
  refine lv_aload_n hx hb dX11_follows_204 rfl (lv_at hl 0 rfl) ?_
  obtain ⟨u1, hu1, hf⟩ := ql_bd hf
  refine ql_callVv (As := []) (rest := []) C0 (c_X11_scans l dC dI h ad cI cZ cJ N ((ql_up (ql_up z.1 21 (fun _ => ((z.1 21 0) - 1))) 25 (fun _ => ((z.1 25 0) - 1))), z.2) u1 hu1) (cwV 0 hts gX11_follows_X11_scans rfl rfl rfl qv_X11_scans ⟨Nat.le_of_ble_eq_true rfl, Nat.le_of_ble_eq_true rfl⟩) (va_recv hK.1 hP (ci := 11) (q0 := 0) rfl rfl) hP hD hS hl.1 rfl rfl (Nat.le_of_ble_eq_true rfl) dX11_follows_205 (fun H locs hP hD hS => ?_)
  refine lv_iconst (v := 2) hx hb dX11_follows_208 (by decide) ?_
  exact ql_iret C0 hf hP hD hS dX11_follows_209
set_option maxHeartbeats 4000000 in
set_option maxRecDepth 100000 in
theorem w_X11_follows_181 {p : Program} {l : Launch} {e : Env} {s : State} {m : MethodId} {args : Array Value} {below : List Frame} {meth : Method} {c : Code} {dC : Nat → ClassId} {dI : Nat → Nat → Nat} {A : Nat → Prop} {h : Nat} {ad : Nat → Nat} {cI cZ cJ : ClassId} {res : Int32 × ql_Z} (C0 : ql_C p s m args meth c cX11_follows 3 (some .int) wsX11_follows RX11 (dC, dI) [(cI, .int), (cZ, .boolean), (cJ, .long)] A) (N : Nat) : ∀ (z : ql_Z) (y0 : Int32), f_X11_follows_181 N z y0 = some res → ∀ (H : Heap) (locs : List Loc) (ls : Array Slot), va_P (dC, dI) vwCl ((ql_mw h ad cI cZ cJ) z) H → va_D A ((ql_mw h ad cI cZ cJ) z) → va_S A s.heap H locs → lv_has ls 3 [(0, .ref h)] → W p l e rm_X11_follows s m args below meth c H locs 0 0 (ql_Qi below (dC, dI) (ql_mw h ad cI cZ cJ) A args s res) (F0 m 181 ls [.int y0, .ref h]) := by
  have C0q := C0
  obtain ⟨hx, hb, hr, hml, hown, hts, hlocks, hK, hA⟩ := C0q
  intro z y0 hf H locs ls hP hD hS hl
  unfold f_X11_follows_181 at hf
  obtain ⟨u2, hu2, hf⟩ := ql_bd hf
  refine ql_callVv (As := [.int y0]) (rest := []) C0 (c_X11_lands l dC dI h ad cI cZ cJ N z y0 u2 hu2) (cwV 1 hts gX11_follows_X11_lands rfl rfl rfl qv_X11_lands ⟨Nat.le_of_ble_eq_true rfl, Nat.le_of_ble_eq_true rfl⟩) (va_recv hK.1 hP (ci := 11) (q0 := 0) rfl rfl) hP hD hS hl.1 rfl rfl (Nat.le_of_ble_eq_true rfl) dX11_follows_181 (fun H locs hP hD hS => ?_)
  exact w_X11_follows_184 C0 N _ hf _ _ _ hP hD hS (lv_sub hl [0] rfl)
set_option maxHeartbeats 4000000 in
set_option maxRecDepth 100000 in
theorem w_X11_follows_114 {p : Program} {l : Launch} {e : Env} {s : State} {m : MethodId} {args : Array Value} {below : List Frame} {meth : Method} {c : Code} {dC : Nat → ClassId} {dI : Nat → Nat → Nat} {A : Nat → Prop} {h : Nat} {ad : Nat → Nat} {cI cZ cJ : ClassId} {res : Int32 × ql_Z} (C0 : ql_C p s m args meth c cX11_follows 3 (some .int) wsX11_follows RX11 (dC, dI) [(cI, .int), (cZ, .boolean), (cJ, .long)] A) (N : Nat) : ∀ (z : ql_Z) (x1 : Int32) (y0 : Int32), f_X11_follows_114 N z x1 y0 = some res → ∀ (H : Heap) (locs : List Loc) (ls : Array Slot), va_P (dC, dI) vwCl ((ql_mw h ad cI cZ cJ) z) H → va_D A ((ql_mw h ad cI cZ cJ) z) → va_S A s.heap H locs → lv_has ls 3 [(0, .ref h), (1, .int x1)] → W p l e rm_X11_follows s m args below meth c H locs 0 0 (ql_Qi below (dC, dI) (ql_mw h ad cI cZ cJ) A args s res) (F0 m 114 ls [.int y0]) := by
  have C0q := C0
  obtain ⟨hx, hb, hr, hml, hown, hts, hlocks, hK, hA⟩ := C0q
  have fl58 := hts (Cond.fieldLink RX11 58 "TestedLoopsModel" "frameLoop" "[Z") (by decide +kernel)
  have fl55 := hts (Cond.fieldLink RX11 55 "TestedLoopsModel" "frameJump" "[I") (by decide +kernel)
  have fl52 := hts (Cond.fieldLink RX11 52 "TestedLoopsModel" "frameTest" "[I") (by decide +kernel)
  intro z x1 y0 hf H locs ls hP hD hS hl
  unfold f_X11_follows_114 at hf
  refine lv_istore_n (lv' := [(2, .int y0), (0, .ref h), (1, .int x1)]) hx hb dX11_follows_114 rfl hl (by decide) rfl (fun ls hl => ?_)
  refine lv_iload_n hx hb dX11_follows_115 rfl (lv_at hl 0 rfl) ?_
  refine lv_if_ne (tgt := 121) hx hb dX11_follows_116 (by decide) (fun c3 => ?_) (fun c3 => ?_)
  · have hf := (if_neg c3).symm.trans hf
    refine lv_aload_n hx hb dX11_follows_121 rfl (lv_at hl 1 rfl) ?_
    refine va_get (D := (dC, dI)) (ci := 11) (v := .ref (ad 24)) (C := RX11) (T := TX11) (N := 41) hx hb hts iw_X11_follows_X11 hown hK.1 hP 0 rfl rfl 24 (by decide) fl58 (fun _ h9 => h9) rfl dX11_follows_122 ?_
    refine lv_iload_n hx hb dX11_follows_125 rfl (lv_at hl 2 rfl) ?_
    have g0 := ql_in (ql_gt hf)
    have hf := ql_gx hf
    refine va_zald (f := (z.1 24)) hx hb hK.1 hP 17 1 rfl rfl g0 dX11_follows_126 ?_
    refine lv_if_eq (tgt := 156) hx hb dX11_follows_127 (by decide) (fun c4 => ?_) (fun c4 => ?_)
    · have hf := (if_pos c4).symm.trans hf
      refine lv_aload_n hx hb dX11_follows_156 rfl (lv_at hl 1 rfl) ?_
      refine lv_aload_n hx hb dX11_follows_157 rfl (lv_at hl 1 rfl) ?_
      refine va_get (D := (dC, dI)) (ci := 11) (v := .ref (ad 23)) (C := RX11) (T := TX11) (N := 41) hx hb hts iw_X11_follows_X11 hown hK.1 hP 0 rfl rfl 23 (by decide) fl55 (fun _ h9 => h9) rfl dX11_follows_158 ?_
      refine lv_iload_n hx hb dX11_follows_161 rfl (lv_at hl 2 rfl) ?_
      have g0 := ql_in (ql_gt hf)
      have hf := ql_gx hf
      refine va_iald (f := (z.1 23)) hx hb hK.1 hP 16 0 rfl rfl g0 dX11_follows_162 ?_
      refine lv_if_ge (tgt := 175) hx hb dX11_follows_163 (by decide) (fun c5 => ?_) (fun c5 => ?_)
      · have hf := (if_pos c5).symm.trans hf
        refine lv_aload_n hx hb dX11_follows_175 rfl (lv_at hl 1 rfl) ?_
        refine va_get (D := (dC, dI)) (ci := 11) (v := .ref (ad 23)) (C := RX11) (T := TX11) (N := 41) hx hb hts iw_X11_follows_X11 hown hK.1 hP 0 rfl rfl 23 (by decide) fl55 (fun _ h9 => h9) rfl dX11_follows_176 ?_
        refine lv_iload_n hx hb dX11_follows_179 rfl (lv_at hl 2 rfl) ?_
        have g0 := ql_in (ql_gt hf)
        have hf := ql_gx hf
        refine va_iald (f := (z.1 23)) hx hb hK.1 hP 16 0 rfl rfl g0 dX11_follows_180 ?_
        exact w_X11_follows_181 C0 N _ _ hf _ _ _ hP hD hS (lv_sub hl [1] rfl)
      · have hf := (if_neg c5).symm.trans hf
        refine lv_aload_n hx hb dX11_follows_166 rfl (lv_at hl 1 rfl) ?_
        refine va_get (D := (dC, dI)) (ci := 11) (v := .ref (ad 22)) (C := RX11) (T := TX11) (N := 41) hx hb hts iw_X11_follows_X11 hown hK.1 hP 0 rfl rfl 22 (by decide) fl52 (fun _ h9 => h9) rfl dX11_follows_167 ?_
        refine lv_iload_n hx hb dX11_follows_170 rfl (lv_at hl 2 rfl) ?_
        have g0 := ql_in (ql_gt hf)
        have hf := ql_gx hf
        refine va_iald (f := (z.1 22)) hx hb hK.1 hP 15 0 rfl rfl g0 dX11_follows_171 ?_
        refine lv_goto (tgt := 181) hx hb dX11_follows_172 (by decide) ?_
        exact w_X11_follows_181 C0 N _ _ hf _ _ _ hP hD hS (lv_sub hl [1] rfl)
    · have hf := (if_neg c4).symm.trans hf
      refine lv_aload_n hx hb dX11_follows_130 rfl (lv_at hl 1 rfl) ?_
      refine lv_iconst (v := 2) hx hb dX11_follows_131 (by decide) ?_
      refine lv_iconst (v := 0) hx hb dX11_follows_132 (by decide) ?_
      refine lv_aload_n hx hb dX11_follows_133 rfl (lv_at hl 1 rfl) ?_
      refine va_get (D := (dC, dI)) (ci := 11) (v := .ref (ad 22)) (C := RX11) (T := TX11) (N := 41) hx hb hts iw_X11_follows_X11 hown hK.1 hP 0 rfl rfl 22 (by decide) fl52 (fun _ h9 => h9) rfl dX11_follows_134 ?_
      refine lv_iload_n hx hb dX11_follows_137 rfl (lv_at hl 2 rfl) ?_
      have g0 := ql_in (ql_gt hf)
      have hf := ql_gx hf
      refine va_iald (f := (z.1 22)) hx hb hK.1 hP 15 0 rfl rfl g0 dX11_follows_138 ?_
      obtain ⟨u6, hu6, hf⟩ := ql_bd hf
      refine ql_callVi (As := [.int 2, .int 0, .int ((z.1 22) x1.toNatClampNeg)]) (rest := []) C0 (c_X11_puts l dC dI h ad cI cZ cJ N z 2 0 ((z.1 22) x1.toNatClampNeg) u6 hu6) (cwV 3 hts gX11_follows_X11_puts rfl rfl rfl qv_X11_puts ⟨Nat.le_of_ble_eq_true rfl, Nat.le_of_ble_eq_true rfl⟩) (va_recv hK.1 hP (ci := 11) (q0 := 0) rfl rfl) hP hD hS hl.1 rfl rfl (Nat.le_of_ble_eq_true rfl) dX11_follows_139 (fun H locs hP hD hS => ?_)
      refine lv_pop hx hb dX11_follows_142 rfl ?_
      refine lv_aload_n hx hb dX11_follows_143 rfl (lv_at hl 1 rfl) ?_
      refine lv_aload_n hx hb dX11_follows_144 rfl (lv_at hl 1 rfl) ?_
      refine va_get (D := (dC, dI)) (ci := 11) (v := .ref (ad 22)) (C := RX11) (T := TX11) (N := 41) hx hb hts iw_X11_follows_X11 hown hK.1 hP 0 rfl rfl 22 (by decide) fl52 (fun _ h9 => h9) rfl dX11_follows_145 ?_
      refine lv_iload_n hx hb dX11_follows_148 rfl (lv_at hl 2 rfl) ?_
      have g0 := ql_in (ql_gt hf)
      have hf := ql_gx hf
      refine va_iald (f := (u6.2.1 22)) hx hb hK.1 hP 15 0 rfl rfl g0 dX11_follows_149 ?_
      obtain ⟨u7, hu7, hf⟩ := ql_bd hf
      refine ql_callVv (As := [.int ((u6.2.1 22) x1.toNatClampNeg)]) (rest := []) C0 (c_X11_lands l dC dI h ad cI cZ cJ N u6.2 ((u6.2.1 22) x1.toNatClampNeg) u7 hu7) (cwV 1 hts gX11_follows_X11_lands rfl rfl rfl qv_X11_lands ⟨Nat.le_of_ble_eq_true rfl, Nat.le_of_ble_eq_true rfl⟩) (va_recv hK.1 hP (ci := 11) (q0 := 0) rfl rfl) hP hD hS hl.1 rfl rfl (Nat.le_of_ble_eq_true rfl) dX11_follows_150 (fun H locs hP hD hS => ?_)
      refine lv_goto (tgt := 184) hx hb dX11_follows_153 (by decide) ?_
      exact w_X11_follows_184 C0 N _ hf _ _ _ hP hD hS (lv_sub hl [1] rfl)
  · have hf := (if_pos c3).symm.trans hf
    refine lv_iconst (v := 0) hx hb dX11_follows_119 (by decide) ?_
    exact ql_iret C0 hf hP hD hS dX11_follows_120
set_option maxHeartbeats 4000000 in
set_option maxRecDepth 100000 in
theorem w_X11_follows_113 {p : Program} {l : Launch} {e : Env} {s : State} {m : MethodId} {args : Array Value} {below : List Frame} {meth : Method} {c : Code} {dC : Nat → ClassId} {dI : Nat → Nat → Nat} {A : Nat → Prop} {h : Nat} {ad : Nat → Nat} {cI cZ cJ : ClassId} {res : Int32 × ql_Z} (C0 : ql_C p s m args meth c cX11_follows 3 (some .int) wsX11_follows RX11 (dC, dI) [(cI, .int), (cZ, .boolean), (cJ, .long)] A) (N : Nat) : ∀ (z : ql_Z) (x1 : Int32), f_X11_follows_113 N z x1 = some res → ∀ (H : Heap) (locs : List Loc) (ls : Array Slot), va_P (dC, dI) vwCl ((ql_mw h ad cI cZ cJ) z) H → va_D A ((ql_mw h ad cI cZ cJ) z) → va_S A s.heap H locs → lv_has ls 3 [(0, .ref h), (1, .int x1)] → W p l e rm_X11_follows s m args below meth c H locs 0 0 (ql_Qi below (dC, dI) (ql_mw h ad cI cZ cJ) A args s res) (F0 m 113 ls []) := by
  have C0q := C0
  obtain ⟨hx, hb, hr, hml, hown, hts, hlocks, hK, hA⟩ := C0q
  intro z x1 hf H locs ls hP hD hS hl
  unfold f_X11_follows_113 at hf
  refine lv_iconst (v := 0) hx hb dX11_follows_113 (by decide) ?_
  exact w_X11_follows_114 C0 N _ _ _ hf _ _ _ hP hD hS (lv_sub hl [0, 1] rfl)
set_option maxHeartbeats 4000000 in
set_option maxRecDepth 100000 in
theorem w_X11_follows_106 {p : Program} {l : Launch} {e : Env} {s : State} {m : MethodId} {args : Array Value} {below : List Frame} {meth : Method} {c : Code} {dC : Nat → ClassId} {dI : Nat → Nat → Nat} {A : Nat → Prop} {h : Nat} {ad : Nat → Nat} {cI cZ cJ : ClassId} {res : Int32 × ql_Z} (C0 : ql_C p s m args meth c cX11_follows 3 (some .int) wsX11_follows RX11 (dC, dI) [(cI, .int), (cZ, .boolean), (cJ, .long)] A) (N : Nat) : ∀ (z : ql_Z) (x1 : Int32) (y0 : Int32) (y1 : Int32), f_X11_follows_106 N z x1 y0 y1 = some res → ∀ (H : Heap) (locs : List Loc) (ls : Array Slot), va_P (dC, dI) vwCl ((ql_mw h ad cI cZ cJ) z) H → va_D A ((ql_mw h ad cI cZ cJ) z) → va_S A s.heap H locs → lv_has ls 3 [(0, .ref h), (1, .int x1)] → W p l e rm_X11_follows s m args below meth c H locs 0 0 (ql_Qi below (dC, dI) (ql_mw h ad cI cZ cJ) A args s res) (F0 m 106 ls [.int y0, .int y1]) := by
  have C0q := C0
  obtain ⟨hx, hb, hr, hml, hown, hts, hlocks, hK, hA⟩ := C0q
  intro z x1 y0 y1 hf H locs ls hP hD hS hl
  unfold f_X11_follows_106 at hf
  refine lv_icmp_ne (tgt := 113) hx hb dX11_follows_106 (by decide) (fun c8 => ?_) (fun c8 => ?_)
  · have hf := (if_neg c8).symm.trans hf
    exact w_X11_follows_113 C0 N _ _ hf _ _ _ hP hD hS (lv_sub hl [0, 1] rfl)
  · have hf := (if_pos c8).symm.trans hf
    refine lv_iconst (v := 1) hx hb dX11_follows_109 (by decide) ?_
    refine lv_goto (tgt := 114) hx hb dX11_follows_110 (by decide) ?_
    exact w_X11_follows_114 C0 N _ _ _ hf _ _ _ hP hD hS (lv_sub hl [0, 1] rfl)
set_option maxHeartbeats 4000000 in
set_option maxRecDepth 100000 in
theorem w_X11_follows_82 {p : Program} {l : Launch} {e : Env} {s : State} {m : MethodId} {args : Array Value} {below : List Frame} {meth : Method} {c : Code} {dC : Nat → ClassId} {dI : Nat → Nat → Nat} {A : Nat → Prop} {h : Nat} {ad : Nat → Nat} {cI cZ cJ : ClassId} {res : Int32 × ql_Z} (C0 : ql_C p s m args meth c cX11_follows 3 (some .int) wsX11_follows RX11 (dC, dI) [(cI, .int), (cZ, .boolean), (cJ, .long)] A) (N : Nat) : ∀ (z : ql_Z) (x1 : Int32), f_X11_follows_82 N z x1 = some res → ∀ (H : Heap) (locs : List Loc) (ls : Array Slot), va_P (dC, dI) vwCl ((ql_mw h ad cI cZ cJ) z) H → va_D A ((ql_mw h ad cI cZ cJ) z) → va_S A s.heap H locs → lv_has ls 3 [(0, .ref h), (1, .int x1)] → W p l e rm_X11_follows s m args below meth c H locs 0 0 (ql_Qi below (dC, dI) (ql_mw h ad cI cZ cJ) A args s res) (F0 m 82 ls []) := by
  have C0q := C0
  obtain ⟨hx, hb, hr, hml, hown, hts, hlocks, hK, hA⟩ := C0q
  have fl153 := hts (Cond.fieldLink RX11 153 "TestedLoopsModel" "token" "I") (by decide +kernel)
  have fl58 := hts (Cond.fieldLink RX11 58 "TestedLoopsModel" "frameLoop" "[Z") (by decide +kernel)
  intro z x1 hf H locs ls hP hD hS hl
  unfold f_X11_follows_82 at hf
  refine lv_iload_n hx hb dX11_follows_82 rfl (lv_at hl 1 rfl) ?_
  refine lv_if_lt (tgt := 113) hx hb dX11_follows_83 (by decide) (fun c9 => ?_) (fun c9 => ?_)
  · have hf := (if_pos c9).symm.trans hf
    exact w_X11_follows_113 C0 N _ _ hf _ _ _ hP hD hS (lv_sub hl [0, 1] rfl)
  · have hf := (if_neg c9).symm.trans hf
    refine lv_aload_n hx hb dX11_follows_86 rfl (lv_at hl 0 rfl) ?_
    refine va_get (D := (dC, dI)) (ci := 11) (v := .int (z.1 15 0)) (C := RX11) (T := TX11) (N := 41) hx hb hts iw_X11_follows_X11 hown hK.1 hP 0 rfl rfl 15 (by decide) fl153 (fun _ h9 => h9) rfl dX11_follows_87 ?_
    refine lv_aload_n hx hb dX11_follows_90 rfl (lv_at hl 0 rfl) ?_
    refine va_get (D := (dC, dI)) (ci := 11) (v := .ref (ad 24)) (C := RX11) (T := TX11) (N := 41) hx hb hts iw_X11_follows_X11 hown hK.1 hP 0 rfl rfl 24 (by decide) fl58 (fun _ h9 => h9) rfl dX11_follows_91 ?_
    refine lv_iload_n hx hb dX11_follows_94 rfl (lv_at hl 1 rfl) ?_
    have g0 := ql_in (ql_gt hf)
    have hf := ql_gx hf
    refine va_zald (f := (z.1 24)) hx hb hK.1 hP 17 1 rfl rfl g0 dX11_follows_95 ?_
    refine lv_if_eq (tgt := 104) hx hb dX11_follows_96 (by decide) (fun c10 => ?_) (fun c10 => ?_)
    · have hf := (if_pos c10).symm.trans hf
      refine lv_bipush (v := 7) hx hb dX11_follows_104 (by decide) ?_
      exact w_X11_follows_106 C0 N _ _ _ _ hf _ _ _ hP hD hS (lv_sub hl [0, 1] rfl)
    · have hf := (if_neg c10).symm.trans hf
      refine lv_bipush (v := 10) hx hb dX11_follows_99 (by decide) ?_
      refine lv_goto (tgt := 106) hx hb dX11_follows_101 (by decide) ?_
      exact w_X11_follows_106 C0 N _ _ _ _ hf _ _ _ hP hD hS (lv_sub hl [0, 1] rfl)
set_option maxHeartbeats 4000000 in
set_option maxRecDepth 100000 in
theorem w_X11_follows_0 {p : Program} {l : Launch} {e : Env} {s : State} {m : MethodId} {args : Array Value} {below : List Frame} {meth : Method} {c : Code} {dC : Nat → ClassId} {dI : Nat → Nat → Nat} {A : Nat → Prop} {h : Nat} {ad : Nat → Nat} {cI cZ cJ : ClassId} {res : Int32 × ql_Z} (C0 : ql_C p s m args meth c cX11_follows 3 (some .int) wsX11_follows RX11 (dC, dI) [(cI, .int), (cZ, .boolean), (cJ, .long)] A) (N : Nat) : ∀ (z : ql_Z), f_X11_follows_0 N z = some res → ∀ (H : Heap) (locs : List Loc) (ls : Array Slot), va_P (dC, dI) vwCl ((ql_mw h ad cI cZ cJ) z) H → va_D A ((ql_mw h ad cI cZ cJ) z) → va_S A s.heap H locs → lv_has ls 3 [(0, .ref h)] → W p l e rm_X11_follows s m args below meth c H locs 0 0 (ql_Qi below (dC, dI) (ql_mw h ad cI cZ cJ) A args s res) (F0 m 0 ls []) := by
  have C0q := C0
  obtain ⟨hx, hb, hr, hml, hown, hts, hlocks, hK, hA⟩ := C0q
  have fl212 := hts (Cond.fieldLink RX11 212 "TestedLoopsModel" "frames" "I") (by decide +kernel)
  have fl153 := hts (Cond.fieldLink RX11 153 "TestedLoopsModel" "token" "I") (by decide +kernel)
  have fl58 := hts (Cond.fieldLink RX11 58 "TestedLoopsModel" "frameLoop" "[Z") (by decide +kernel)
  have fl55 := hts (Cond.fieldLink RX11 55 "TestedLoopsModel" "frameJump" "[I") (by decide +kernel)
  have fl52 := hts (Cond.fieldLink RX11 52 "TestedLoopsModel" "frameTest" "[I") (by decide +kernel)
  intro z hf H locs ls hP hD hS hl
  unfold f_X11_follows_0 at hf
  refine lv_aload_n hx hb dX11_follows_0 rfl (lv_at hl 0 rfl) ?_
  refine va_get (D := (dC, dI)) (ci := 11) (v := .int (z.1 25 0)) (C := RX11) (T := TX11) (N := 41) hx hb hts iw_X11_follows_X11 hown hK.1 hP 0 rfl rfl 25 (by decide) fl212 (fun _ h9 => h9) rfl dX11_follows_1 ?_
  refine lv_iconst (v := 1) hx hb dX11_follows_4 (by decide) ?_
  refine lv_isub hx hb dX11_follows_5 ?_
  refine lv_istore_n (lv' := [(1, .int ((z.1 25 0) - 1)), (0, .ref h)]) hx hb dX11_follows_6 rfl hl (by decide) rfl (fun ls hl => ?_)
  refine lv_aload_n hx hb dX11_follows_7 rfl (lv_at hl 1 rfl) ?_
  refine va_get (D := (dC, dI)) (ci := 11) (v := .int (z.1 15 0)) (C := RX11) (T := TX11) (N := 41) hx hb hts iw_X11_follows_X11 hown hK.1 hP 0 rfl rfl 15 (by decide) fl153 (fun _ h9 => h9) rfl dX11_follows_8 ?_
  refine lv_bipush (v := 19) hx hb dX11_follows_11 (by decide) ?_
  refine lv_icmp_ne (tgt := 22) hx hb dX11_follows_13 (by decide) (fun c11 => ?_) (fun c11 => ?_)
  · have hf := (if_neg c11).symm.trans hf
    refine lv_aload_n hx hb dX11_follows_22 rfl (lv_at hl 1 rfl) ?_
    refine va_get (D := (dC, dI)) (ci := 11) (v := .int (z.1 15 0)) (C := RX11) (T := TX11) (N := 41) hx hb hts iw_X11_follows_X11 hown hK.1 hP 0 rfl rfl 15 (by decide) fl153 (fun _ h9 => h9) rfl dX11_follows_23 ?_
    refine lv_bipush (v := 6) hx hb dX11_follows_26 (by decide) ?_
    refine lv_icmp_ne (tgt := 82) hx hb dX11_follows_28 (by decide) (fun c12 => ?_) (fun c12 => ?_)
    · have hf := (if_neg c12).symm.trans hf
      exact w_X11_follows_82 C0 N _ _ hf _ _ _ hP hD hS (lv_sub hl [1, 0] rfl)
    · have hf := (if_pos c12).symm.trans hf
      refine lv_iload_n hx hb dX11_follows_31 rfl (lv_at hl 0 rfl) ?_
      refine lv_if_lt (tgt := 82) hx hb dX11_follows_32 (by decide) (fun c13 => ?_) (fun c13 => ?_)
      · have hf := (if_pos c13).symm.trans hf
        exact w_X11_follows_82 C0 N _ _ hf _ _ _ hP hD hS (lv_sub hl [1, 0] rfl)
      · have hf := (if_neg c13).symm.trans hf
        refine lv_aload_n hx hb dX11_follows_35 rfl (lv_at hl 1 rfl) ?_
        refine va_get (D := (dC, dI)) (ci := 11) (v := .ref (ad 24)) (C := RX11) (T := TX11) (N := 41) hx hb hts iw_X11_follows_X11 hown hK.1 hP 0 rfl rfl 24 (by decide) fl58 (fun _ h9 => h9) rfl dX11_follows_36 ?_
        refine lv_iload_n hx hb dX11_follows_39 rfl (lv_at hl 0 rfl) ?_
        have g0 := ql_in (ql_gt hf)
        have hf := ql_gx hf
        refine va_zald (f := (z.1 24)) hx hb hK.1 hP 17 1 rfl rfl g0 dX11_follows_40 ?_
        refine lv_if_ne (tgt := 82) hx hb dX11_follows_41 (by decide) (fun c14 => ?_) (fun c14 => ?_)
        · have hf := (if_neg c14).symm.trans hf
          exact w_X11_follows_82 C0 N _ _ hf _ _ _ hP hD hS (lv_sub hl [1, 0] rfl)
        · have hf := (if_pos c14).symm.trans hf
          refine lv_aload_n hx hb dX11_follows_44 rfl (lv_at hl 1 rfl) ?_
          refine va_get (D := (dC, dI)) (ci := 11) (v := .ref (ad 23)) (C := RX11) (T := TX11) (N := 41) hx hb hts iw_X11_follows_X11 hown hK.1 hP 0 rfl rfl 23 (by decide) fl55 (fun _ h9 => h9) rfl dX11_follows_45 ?_
          refine lv_iload_n hx hb dX11_follows_48 rfl (lv_at hl 0 rfl) ?_
          have g0 := ql_in (ql_gt hf)
          have hf := ql_gx hf
          refine va_iald (f := (z.1 23)) hx hb hK.1 hP 16 0 rfl rfl g0 dX11_follows_49 ?_
          refine lv_if_ge (tgt := 82) hx hb dX11_follows_50 (by decide) (fun c15 => ?_) (fun c15 => ?_)
          · have hf := (if_pos c15).symm.trans hf
            exact w_X11_follows_82 C0 N _ _ hf _ _ _ hP hD hS (lv_sub hl [1, 0] rfl)
          · have hf := (if_neg c15).symm.trans hf
            refine lv_aload_n hx hb dX11_follows_53 rfl (lv_at hl 1 rfl) ?_
            refine va_get (D := (dC, dI)) (ci := 11) (v := .ref (ad 23)) (C := RX11) (T := TX11) (N := 41) hx hb hts iw_X11_follows_X11 hown hK.1 hP 0 rfl rfl 23 (by decide) fl55 (fun _ h9 => h9) rfl dX11_follows_54 ?_
            refine lv_iload_n hx hb dX11_follows_57 rfl (lv_at hl 0 rfl) ?_
            refine lv_aload_n hx hb dX11_follows_58 rfl (lv_at hl 1 rfl) ?_
            refine lv_iconst (v := 2) hx hb dX11_follows_59 (by decide) ?_
            refine lv_iconst (v := 0) hx hb dX11_follows_60 (by decide) ?_
            refine lv_iconst (v := 0) hx hb dX11_follows_61 (by decide) ?_
            obtain ⟨u16, hu16, hf⟩ := ql_bd hf
            refine ql_callVi (As := [.int 2, .int 0, .int 0]) (rest := [.int ((z.1 25 0) - 1), .ref (ad 23)]) C0 (c_X11_puts l dC dI h ad cI cZ cJ N z 2 0 0 u16 hu16) (cwV 3 hts gX11_follows_X11_puts rfl rfl rfl qv_X11_puts ⟨Nat.le_of_ble_eq_true rfl, Nat.le_of_ble_eq_true rfl⟩) (va_recv hK.1 hP (ci := 11) (q0 := 0) rfl rfl) hP hD hS hl.1 rfl rfl (Nat.le_of_ble_eq_true rfl) dX11_follows_62 (fun H locs hP hD hS => ?_)
            have g0 := ql_in (ql_gt hf)
            have hf := ql_gx hf
            refine va_iast (f := (u16.2.1 23)) hx hb hK.1 hP hD hS 16 0 rfl rfl g0 dX11_follows_65 (fun H locs hP hD hS => ?_)
            refine lv_aload_n hx hb dX11_follows_66 rfl (lv_at hl 1 rfl) ?_
            refine lv_aload_n hx hb dX11_follows_67 rfl (lv_at hl 1 rfl) ?_
            refine va_get (D := (dC, dI)) (ci := 11) (v := .ref (ad 22)) (C := RX11) (T := TX11) (N := 41) hx hb hts iw_X11_follows_X11 hown hK.1 hP 0 rfl rfl 22 (by decide) fl52 (fun _ h9 => h9) rfl dX11_follows_68 ?_
            refine lv_iload_n hx hb dX11_follows_71 rfl (lv_at hl 0 rfl) ?_
            have g0 := ql_in (ql_gt hf)
            have hf := ql_gx hf
            refine va_iald (f := (u16.2.1 22)) hx hb hK.1 hP 15 0 rfl rfl g0 dX11_follows_72 ?_
            obtain ⟨u17, hu17, hf⟩ := ql_bd hf
            refine ql_callVv (As := [.int ((u16.2.1 22) ((z.1 25 0) - 1).toNatClampNeg)]) (rest := []) C0 (c_X11_lands l dC dI h ad cI cZ cJ N ((ql_up u16.2.1 23 (upd (u16.2.1 23) (((z.1 25 0) - 1).toNatClampNeg) u16.1)), u16.2.2) ((u16.2.1 22) ((z.1 25 0) - 1).toNatClampNeg) u17 hu17) (cwV 1 hts gX11_follows_X11_lands rfl rfl rfl qv_X11_lands ⟨Nat.le_of_ble_eq_true rfl, Nat.le_of_ble_eq_true rfl⟩) (va_recv hK.1 hP (ci := 11) (q0 := 0) rfl rfl) hP hD hS hl.1 rfl rfl (Nat.le_of_ble_eq_true rfl) dX11_follows_73 (fun H locs hP hD hS => ?_)
            refine lv_aload_n hx hb dX11_follows_76 rfl (lv_at hl 1 rfl) ?_
            obtain ⟨u18, hu18, hf⟩ := ql_bd hf
            refine ql_callVv (As := []) (rest := []) C0 (c_X11_scans l dC dI h ad cI cZ cJ N u17 u18 hu18) (cwV 0 hts gX11_follows_X11_scans rfl rfl rfl qv_X11_scans ⟨Nat.le_of_ble_eq_true rfl, Nat.le_of_ble_eq_true rfl⟩) (va_recv hK.1 hP (ci := 11) (q0 := 0) rfl rfl) hP hD hS hl.1 rfl rfl (Nat.le_of_ble_eq_true rfl) dX11_follows_77 (fun H locs hP hD hS => ?_)
            refine lv_iconst (v := 1) hx hb dX11_follows_80 (by decide) ?_
            exact ql_iret C0 hf hP hD hS dX11_follows_81
  · have hf := (if_pos c11).symm.trans hf
    refine lv_aload_n hx hb dX11_follows_16 rfl (lv_at hl 1 rfl) ?_
    obtain ⟨u19, hu19, hf⟩ := ql_bd hf
    refine ql_callVv (As := []) (rest := []) C0 (c_X11_scans l dC dI h ad cI cZ cJ N z u19 hu19) (cwV 0 hts gX11_follows_X11_scans rfl rfl rfl qv_X11_scans ⟨Nat.le_of_ble_eq_true rfl, Nat.le_of_ble_eq_true rfl⟩) (va_recv hK.1 hP (ci := 11) (q0 := 0) rfl rfl) hP hD hS hl.1 rfl rfl (Nat.le_of_ble_eq_true rfl) dX11_follows_17 (fun H locs hP hD hS => ?_)
    refine lv_iconst (v := 1) hx hb dX11_follows_20 (by decide) ?_
    exact ql_iret C0 hf hP hD hS dX11_follows_21
set_option maxRecDepth 100000 in
theorem c_X11_follows (l : Launch) (dC : Nat → ClassId) (dI : Nat → Nat → Nat) (h : Nat) (ad : Nat → Nat) (cI cZ cJ : ClassId) (N : Nat) (z : ql_Z) (res : Int32 × ql_Z) (hf : f_X11_follows N z = some res) : ql_Mi l yX11_follows wsX11_follows rm_X11_follows (dC, dI) [(cI, .int), (cZ, .boolean), (cJ, .long)] (ql_mw h ad cI cZ cJ) [.ref h] z res :=
  ql_start_i (by decide) rfl (Nat.le_of_ble_eq_true rfl) (fun p e s m below meth c A ls C0 hl hP hD hS => w_X11_follows_0 C0 N z hf s.heap [] ls hP hD hS (lv_sub (show lv_has ls 3 [(0, .ref h)] from hl) [0] rfl))
/-! ===== TestedLoopsModel.reads()Z ===== -/
abbrev rm_X11_reads : Room := { frames := 6, cells := 0, slots := 0, locals := 130 }
theorem iw_X11_reads_X11 : ∀ w ∈ wsX110, w ∈ wsX11_reads := fun w h => List.mem_cons_of_mem _ (List.mem_append_right _ h)
theorem qv_X11_reads : yX11_reads.cls = RX11 ∧ yX11_reads.cls ≠ "java/lang/invoke/MethodHandle" ∧ yX11_reads.cls ≠ "java/lang/invoke/VarHandle" ∧ (parseMethodDescriptor yX11_reads.desc).map (fun d => d.parameters.length) = some 0 := by decide +kernel
def f_X11_reads_116 (N : Nat) (k42 : ql_Z → Int32 → Option (Int32 × ql_Z)) (z : ql_Z) : Option (Int32 × ql_Z) := (f_X11_follows N z).bind fun u1 => if u1.1 = 0 then some (0, u1.2) else k42 u1.2 u1.1
def f_X11_reads_88 (N : Nat) (k42 : ql_Z → Int32 → Option (Int32 × ql_Z)) (z : ql_Z) (y0 : Int32) : Option (Int32 × ql_Z) := k42 z y0
def f_X11_reads_69 (N : Nat) (k42 : ql_Z → Int32 → Option (Int32 × ql_Z)) (z : ql_Z) (y0 : Int32) : Option (Int32 × ql_Z) := (f_X11_begins N z).bind fun u3 => if u3.1 = 0 then some (0, u3.2) else if y0 = 0 then f_X11_reads_88 N k42 u3.2 2 else f_X11_reads_88 N k42 u3.2 1
def f_X11_reads_64 (N : Nat) (k42 : ql_Z → Int32 → Option (Int32 × ql_Z)) (z : ql_Z) : Option (Int32 × ql_Z) := f_X11_reads_69 N k42 z 1
def f_X11_reads_42 (N : Nat) : Nat → ql_Z → Int32 → Option (Int32 × ql_Z)
  | 0, _, _ => none
  | n + 1, z, x1 => if x1 = 1 then if (z.1 15 0) = 4 then f_X11_reads_64 N (f_X11_reads_42 N n) z else if (z.1 15 0) = 8 then f_X11_reads_64 N (f_X11_reads_42 N n) z else f_X11_reads_69 N (f_X11_reads_42 N n) z 0 else if (z.1 15 0) = 0 then if (z.1 25 0) = 0 then (f_X11_puts N z 4 0 0).bind fun u9 => some (1, u9.2) else f_X11_reads_116 N (f_X11_reads_42 N n) z else f_X11_reads_116 N (f_X11_reads_42 N n) z
def f_X11_reads_0 (N : Nat) (z : ql_Z) : Option (Int32 × ql_Z) := (f_X11_scans N ((ql_up (ql_up (ql_up (ql_up (ql_up (ql_up z.1 6 (upd (z.1 6) 4 0)) 9 (upd (z.1 9) 4 0)) 12 (upd (z.1 12) 4 0)) 14 (fun _ => 0)) 21 (fun _ => 0)) 25 (fun _ => 0)), z.2)).bind fun u12 => f_X11_reads_42 N N u12 1
def f_X11_reads (N : Nat) (z : ql_Z) : Option (Int32 × ql_Z) := f_X11_reads_0 N z
set_option maxHeartbeats 4000000 in
set_option maxRecDepth 100000 in
theorem w_X11_reads_116 {p : Program} {l : Launch} {e : Env} {s : State} {m : MethodId} {args : Array Value} {below : List Frame} {meth : Method} {c : Code} {dC : Nat → ClassId} {dI : Nat → Nat → Nat} {A : Nat → Prop} {h : Nat} {ad : Nat → Nat} {cI cZ cJ : ClassId} {res : Int32 × ql_Z} (C0 : ql_C p s m args meth c cX11_reads 3 (some .boolean) wsX11_reads RX11 (dC, dI) [(cI, .int), (cZ, .boolean), (cJ, .long)] A) (N : Nat) (k42 : ql_Z → Int32 → Option (Int32 × ql_Z)) (hk42 : ∀ (z : ql_Z) (x1 : Int32), k42 z x1 = some res → ∀ (H : Heap) (locs : List Loc) (ls : Array Slot), va_P (dC, dI) vwCl ((ql_mw h ad cI cZ cJ) z) H → va_D A ((ql_mw h ad cI cZ cJ) z) → va_S A s.heap H locs → lv_has ls 3 [(0, .ref h), (1, .int x1)] → W p l e rm_X11_reads s m args below meth c H locs 0 0 (ql_Qi below (dC, dI) (ql_mw h ad cI cZ cJ) A args s res) (F0 m 42 ls [])) : ∀ (z : ql_Z), f_X11_reads_116 N k42 z = some res → ∀ (H : Heap) (locs : List Loc) (ls : Array Slot), va_P (dC, dI) vwCl ((ql_mw h ad cI cZ cJ) z) H → va_D A ((ql_mw h ad cI cZ cJ) z) → va_S A s.heap H locs → lv_has ls 3 [(0, .ref h)] → W p l e rm_X11_reads s m args below meth c H locs 0 0 (ql_Qi below (dC, dI) (ql_mw h ad cI cZ cJ) A args s res) (F0 m 116 ls []) := by
  have C0q := C0
  obtain ⟨hx, hb, hr, hml, hown, hts, hlocks, hK, hA⟩ := C0q
  intro z hf H locs ls hP hD hS hl
  unfold f_X11_reads_116 at hf
  refine lv_aload_n hx hb dX11_reads_116 rfl (lv_at hl 0 rfl) ?_
  obtain ⟨u1, hu1, hf⟩ := ql_bd hf
  refine ql_callVi (As := []) (rest := []) C0 (c_X11_follows l dC dI h ad cI cZ cJ N z u1 hu1) (cwV 0 hts gX11_reads_X11_follows rfl rfl rfl qv_X11_follows ⟨Nat.le_of_ble_eq_true rfl, Nat.le_of_ble_eq_true rfl⟩) (va_recv hK.1 hP (ci := 11) (q0 := 0) rfl rfl) hP hD hS hl.1 rfl rfl (Nat.le_of_ble_eq_true rfl) dX11_reads_117 (fun H locs hP hD hS => ?_)
  refine lv_istore_n (lv' := [(1, .int u1.1), (0, .ref h)]) hx hb dX11_reads_120 rfl hl (by decide) rfl (fun ls hl => ?_)
  refine lv_iload_n hx hb dX11_reads_121 rfl (lv_at hl 0 rfl) ?_
  refine lv_if_ne (tgt := 42) hx hb dX11_reads_122 (by decide) (fun c2 => ?_) (fun c2 => ?_)
  · have hf := (if_neg c2).symm.trans hf
    exact hk42 _ _ hf _ _ _ hP hD hS (lv_sub hl [1, 0] rfl)
  · have hf := (if_pos c2).symm.trans hf
    refine lv_iconst (v := 0) hx hb dX11_reads_125 (by decide) ?_
    exact ql_zret C0 (Or.inl rfl) hf hP hD hS dX11_reads_126
set_option maxHeartbeats 4000000 in
set_option maxRecDepth 100000 in
theorem w_X11_reads_88 {p : Program} {l : Launch} {e : Env} {s : State} {m : MethodId} {args : Array Value} {below : List Frame} {meth : Method} {c : Code} {dC : Nat → ClassId} {dI : Nat → Nat → Nat} {A : Nat → Prop} {h : Nat} {ad : Nat → Nat} {cI cZ cJ : ClassId} {res : Int32 × ql_Z} (C0 : ql_C p s m args meth c cX11_reads 3 (some .boolean) wsX11_reads RX11 (dC, dI) [(cI, .int), (cZ, .boolean), (cJ, .long)] A) (N : Nat) (k42 : ql_Z → Int32 → Option (Int32 × ql_Z)) (hk42 : ∀ (z : ql_Z) (x1 : Int32), k42 z x1 = some res → ∀ (H : Heap) (locs : List Loc) (ls : Array Slot), va_P (dC, dI) vwCl ((ql_mw h ad cI cZ cJ) z) H → va_D A ((ql_mw h ad cI cZ cJ) z) → va_S A s.heap H locs → lv_has ls 3 [(0, .ref h), (1, .int x1)] → W p l e rm_X11_reads s m args below meth c H locs 0 0 (ql_Qi below (dC, dI) (ql_mw h ad cI cZ cJ) A args s res) (F0 m 42 ls [])) : ∀ (z : ql_Z) (y0 : Int32), f_X11_reads_88 N k42 z y0 = some res → ∀ (H : Heap) (locs : List Loc) (ls : Array Slot), va_P (dC, dI) vwCl ((ql_mw h ad cI cZ cJ) z) H → va_D A ((ql_mw h ad cI cZ cJ) z) → va_S A s.heap H locs → lv_has ls 3 [(0, .ref h)] → W p l e rm_X11_reads s m args below meth c H locs 0 0 (ql_Qi below (dC, dI) (ql_mw h ad cI cZ cJ) A args s res) (F0 m 88 ls [.int y0]) := by
  have C0q := C0
  obtain ⟨hx, hb, hr, hml, hown, hts, hlocks, hK, hA⟩ := C0q
  intro z y0 hf H locs ls hP hD hS hl
  unfold f_X11_reads_88 at hf
  refine lv_istore_n (lv' := [(1, .int y0), (0, .ref h)]) hx hb dX11_reads_88 rfl hl (by decide) rfl (fun ls hl => ?_)
  refine lv_goto (tgt := 42) hx hb dX11_reads_89 (by decide) ?_
  exact hk42 _ _ hf _ _ _ hP hD hS (lv_sub hl [1, 0] rfl)
set_option maxHeartbeats 4000000 in
set_option maxRecDepth 100000 in
theorem w_X11_reads_69 {p : Program} {l : Launch} {e : Env} {s : State} {m : MethodId} {args : Array Value} {below : List Frame} {meth : Method} {c : Code} {dC : Nat → ClassId} {dI : Nat → Nat → Nat} {A : Nat → Prop} {h : Nat} {ad : Nat → Nat} {cI cZ cJ : ClassId} {res : Int32 × ql_Z} (C0 : ql_C p s m args meth c cX11_reads 3 (some .boolean) wsX11_reads RX11 (dC, dI) [(cI, .int), (cZ, .boolean), (cJ, .long)] A) (N : Nat) (k42 : ql_Z → Int32 → Option (Int32 × ql_Z)) (hk42 : ∀ (z : ql_Z) (x1 : Int32), k42 z x1 = some res → ∀ (H : Heap) (locs : List Loc) (ls : Array Slot), va_P (dC, dI) vwCl ((ql_mw h ad cI cZ cJ) z) H → va_D A ((ql_mw h ad cI cZ cJ) z) → va_S A s.heap H locs → lv_has ls 3 [(0, .ref h), (1, .int x1)] → W p l e rm_X11_reads s m args below meth c H locs 0 0 (ql_Qi below (dC, dI) (ql_mw h ad cI cZ cJ) A args s res) (F0 m 42 ls [])) : ∀ (z : ql_Z) (y0 : Int32), f_X11_reads_69 N k42 z y0 = some res → ∀ (H : Heap) (locs : List Loc) (ls : Array Slot), va_P (dC, dI) vwCl ((ql_mw h ad cI cZ cJ) z) H → va_D A ((ql_mw h ad cI cZ cJ) z) → va_S A s.heap H locs → lv_has ls 3 [(0, .ref h)] → W p l e rm_X11_reads s m args below meth c H locs 0 0 (ql_Qi below (dC, dI) (ql_mw h ad cI cZ cJ) A args s res) (F0 m 69 ls [.int y0]) := by
  have C0q := C0
  obtain ⟨hx, hb, hr, hml, hown, hts, hlocks, hK, hA⟩ := C0q
  intro z y0 hf H locs ls hP hD hS hl
  unfold f_X11_reads_69 at hf
  refine lv_istore_n (lv' := [(2, .int y0), (0, .ref h)]) hx hb dX11_reads_69 rfl hl (by decide) rfl (fun ls hl => ?_)
  refine lv_aload_n hx hb dX11_reads_70 rfl (lv_at hl 1 rfl) ?_
  obtain ⟨u3, hu3, hf⟩ := ql_bd hf
  refine ql_callVi (As := []) (rest := []) C0 (c_X11_begins l dC dI h ad cI cZ cJ N z u3 hu3) (cwV 0 hts gX11_reads_X11_begins rfl rfl rfl qv_X11_begins ⟨Nat.le_of_ble_eq_true rfl, Nat.le_of_ble_eq_true rfl⟩) (va_recv hK.1 hP (ci := 11) (q0 := 0) rfl rfl) hP hD hS hl.1 rfl rfl (Nat.le_of_ble_eq_true rfl) dX11_reads_71 (fun H locs hP hD hS => ?_)
  refine lv_if_ne (tgt := 79) hx hb dX11_reads_74 (by decide) (fun c4 => ?_) (fun c4 => ?_)
  · have hf := (if_neg c4).symm.trans hf
    refine lv_iload_n hx hb dX11_reads_79 rfl (lv_at hl 0 rfl) ?_
    refine lv_if_eq (tgt := 87) hx hb dX11_reads_80 (by decide) (fun c5 => ?_) (fun c5 => ?_)
    · have hf := (if_pos c5).symm.trans hf
      refine lv_iconst (v := 2) hx hb dX11_reads_87 (by decide) ?_
      exact w_X11_reads_88 C0 N k42 hk42 _ _ hf _ _ _ hP hD hS (lv_sub hl [1] rfl)
    · have hf := (if_neg c5).symm.trans hf
      refine lv_iconst (v := 1) hx hb dX11_reads_83 (by decide) ?_
      refine lv_goto (tgt := 88) hx hb dX11_reads_84 (by decide) ?_
      exact w_X11_reads_88 C0 N k42 hk42 _ _ hf _ _ _ hP hD hS (lv_sub hl [1] rfl)
  · have hf := (if_pos c4).symm.trans hf
    refine lv_iconst (v := 0) hx hb dX11_reads_77 (by decide) ?_
    exact ql_zret C0 (Or.inl rfl) hf hP hD hS dX11_reads_78
set_option maxHeartbeats 4000000 in
set_option maxRecDepth 100000 in
theorem w_X11_reads_64 {p : Program} {l : Launch} {e : Env} {s : State} {m : MethodId} {args : Array Value} {below : List Frame} {meth : Method} {c : Code} {dC : Nat → ClassId} {dI : Nat → Nat → Nat} {A : Nat → Prop} {h : Nat} {ad : Nat → Nat} {cI cZ cJ : ClassId} {res : Int32 × ql_Z} (C0 : ql_C p s m args meth c cX11_reads 3 (some .boolean) wsX11_reads RX11 (dC, dI) [(cI, .int), (cZ, .boolean), (cJ, .long)] A) (N : Nat) (k42 : ql_Z → Int32 → Option (Int32 × ql_Z)) (hk42 : ∀ (z : ql_Z) (x1 : Int32), k42 z x1 = some res → ∀ (H : Heap) (locs : List Loc) (ls : Array Slot), va_P (dC, dI) vwCl ((ql_mw h ad cI cZ cJ) z) H → va_D A ((ql_mw h ad cI cZ cJ) z) → va_S A s.heap H locs → lv_has ls 3 [(0, .ref h), (1, .int x1)] → W p l e rm_X11_reads s m args below meth c H locs 0 0 (ql_Qi below (dC, dI) (ql_mw h ad cI cZ cJ) A args s res) (F0 m 42 ls [])) : ∀ (z : ql_Z), f_X11_reads_64 N k42 z = some res → ∀ (H : Heap) (locs : List Loc) (ls : Array Slot), va_P (dC, dI) vwCl ((ql_mw h ad cI cZ cJ) z) H → va_D A ((ql_mw h ad cI cZ cJ) z) → va_S A s.heap H locs → lv_has ls 3 [(0, .ref h)] → W p l e rm_X11_reads s m args below meth c H locs 0 0 (ql_Qi below (dC, dI) (ql_mw h ad cI cZ cJ) A args s res) (F0 m 64 ls []) := by
  have C0q := C0
  obtain ⟨hx, hb, hr, hml, hown, hts, hlocks, hK, hA⟩ := C0q
  intro z hf H locs ls hP hD hS hl
  unfold f_X11_reads_64 at hf
  refine lv_iconst (v := 1) hx hb dX11_reads_64 (by decide) ?_
  refine lv_goto (tgt := 69) hx hb dX11_reads_65 (by decide) ?_
  exact w_X11_reads_69 C0 N k42 hk42 _ _ hf _ _ _ hP hD hS (lv_sub hl [0] rfl)
set_option maxHeartbeats 4000000 in
set_option maxRecDepth 100000 in
theorem w_X11_reads_42 {p : Program} {l : Launch} {e : Env} {s : State} {m : MethodId} {args : Array Value} {below : List Frame} {meth : Method} {c : Code} {dC : Nat → ClassId} {dI : Nat → Nat → Nat} {A : Nat → Prop} {h : Nat} {ad : Nat → Nat} {cI cZ cJ : ClassId} {res : Int32 × ql_Z} (C0 : ql_C p s m args meth c cX11_reads 3 (some .boolean) wsX11_reads RX11 (dC, dI) [(cI, .int), (cZ, .boolean), (cJ, .long)] A) (N : Nat) : ∀ (n : Nat), ∀ (z : ql_Z) (x1 : Int32), f_X11_reads_42 N n z x1 = some res → ∀ (H : Heap) (locs : List Loc) (ls : Array Slot), va_P (dC, dI) vwCl ((ql_mw h ad cI cZ cJ) z) H → va_D A ((ql_mw h ad cI cZ cJ) z) → va_S A s.heap H locs → lv_has ls 3 [(0, .ref h), (1, .int x1)] → W p l e rm_X11_reads s m args below meth c H locs 0 0 (ql_Qi below (dC, dI) (ql_mw h ad cI cZ cJ) A args s res) (F0 m 42 ls []) := by
  have C0q := C0
  obtain ⟨hx, hb, hr, hml, hown, hts, hlocks, hK, hA⟩ := C0q
  have fl153 := hts (Cond.fieldLink RX11 153 "TestedLoopsModel" "token" "I") (by decide +kernel)
  have fl212 := hts (Cond.fieldLink RX11 212 "TestedLoopsModel" "frames" "I") (by decide +kernel)
  intro n
  induction n with
  | zero =>
    intro z x1 hf
    rw [f_X11_reads_42] at hf
    cases hf
  | succ n ih =>
    intro z x1 hf H locs ls hP hD hS hl
    rw [f_X11_reads_42] at hf
    refine lv_iload_n hx hb dX11_reads_42 rfl (lv_at hl 1 rfl) ?_
    refine lv_iconst (v := 1) hx hb dX11_reads_43 (by decide) ?_
    refine lv_icmp_ne (tgt := 92) hx hb dX11_reads_44 (by decide) (fun c6 => ?_) (fun c6 => ?_)
    · have hf := (if_neg c6).symm.trans hf
      refine lv_aload_n hx hb dX11_reads_92 rfl (lv_at hl 0 rfl) ?_
      refine va_get (D := (dC, dI)) (ci := 11) (v := .int (z.1 15 0)) (C := RX11) (T := TX11) (N := 41) hx hb hts iw_X11_reads_X11 hown hK.1 hP 0 rfl rfl 15 (by decide) fl153 (fun _ h9 => h9) rfl dX11_reads_93 ?_
      refine lv_if_ne (tgt := 116) hx hb dX11_reads_96 (by decide) (fun c7 => ?_) (fun c7 => ?_)
      · have hf := (if_neg c7).symm.trans hf
        exact w_X11_reads_116 C0 N (f_X11_reads_42 N n) ih _ hf _ _ _ hP hD hS (lv_sub hl [0] rfl)
      · have hf := (if_pos c7).symm.trans hf
        refine lv_aload_n hx hb dX11_reads_99 rfl (lv_at hl 0 rfl) ?_
        refine va_get (D := (dC, dI)) (ci := 11) (v := .int (z.1 25 0)) (C := RX11) (T := TX11) (N := 41) hx hb hts iw_X11_reads_X11 hown hK.1 hP 0 rfl rfl 25 (by decide) fl212 (fun _ h9 => h9) rfl dX11_reads_100 ?_
        refine lv_if_ne (tgt := 116) hx hb dX11_reads_103 (by decide) (fun c8 => ?_) (fun c8 => ?_)
        · have hf := (if_neg c8).symm.trans hf
          exact w_X11_reads_116 C0 N (f_X11_reads_42 N n) ih _ hf _ _ _ hP hD hS (lv_sub hl [0] rfl)
        · have hf := (if_pos c8).symm.trans hf
          refine lv_aload_n hx hb dX11_reads_106 rfl (lv_at hl 0 rfl) ?_
          refine lv_iconst (v := 4) hx hb dX11_reads_107 (by decide) ?_
          refine lv_iconst (v := 0) hx hb dX11_reads_108 (by decide) ?_
          refine lv_iconst (v := 0) hx hb dX11_reads_109 (by decide) ?_
          obtain ⟨u9, hu9, hf⟩ := ql_bd hf
          refine ql_callVi (As := [.int 4, .int 0, .int 0]) (rest := []) C0 (c_X11_puts l dC dI h ad cI cZ cJ N z 4 0 0 u9 hu9) (cwV 3 hts gX11_reads_X11_puts rfl rfl rfl qv_X11_puts ⟨Nat.le_of_ble_eq_true rfl, Nat.le_of_ble_eq_true rfl⟩) (va_recv hK.1 hP (ci := 11) (q0 := 0) rfl rfl) hP hD hS hl.1 rfl rfl (Nat.le_of_ble_eq_true rfl) dX11_reads_110 (fun H locs hP hD hS => ?_)
          refine lv_pop hx hb dX11_reads_113 rfl ?_
          refine lv_iconst (v := 1) hx hb dX11_reads_114 (by decide) ?_
          exact ql_zret C0 (Or.inr rfl) hf hP hD hS dX11_reads_115
    · have hf := (if_pos c6).symm.trans hf
      refine lv_aload_n hx hb dX11_reads_47 rfl (lv_at hl 0 rfl) ?_
      refine va_get (D := (dC, dI)) (ci := 11) (v := .int (z.1 15 0)) (C := RX11) (T := TX11) (N := 41) hx hb hts iw_X11_reads_X11 hown hK.1 hP 0 rfl rfl 15 (by decide) fl153 (fun _ h9 => h9) rfl dX11_reads_48 ?_
      refine lv_iconst (v := 4) hx hb dX11_reads_51 (by decide) ?_
      refine lv_icmp_eq (tgt := 64) hx hb dX11_reads_52 (by decide) (fun c10 => ?_) (fun c10 => ?_)
      · have hf := (if_pos c10).symm.trans hf
        exact w_X11_reads_64 C0 N (f_X11_reads_42 N n) ih _ hf _ _ _ hP hD hS (lv_sub hl [0] rfl)
      · have hf := (if_neg c10).symm.trans hf
        refine lv_aload_n hx hb dX11_reads_55 rfl (lv_at hl 0 rfl) ?_
        refine va_get (D := (dC, dI)) (ci := 11) (v := .int (z.1 15 0)) (C := RX11) (T := TX11) (N := 41) hx hb hts iw_X11_reads_X11 hown hK.1 hP 0 rfl rfl 15 (by decide) fl153 (fun _ h9 => h9) rfl dX11_reads_56 ?_
        refine lv_bipush (v := 8) hx hb dX11_reads_59 (by decide) ?_
        refine lv_icmp_ne (tgt := 68) hx hb dX11_reads_61 (by decide) (fun c11 => ?_) (fun c11 => ?_)
        · have hf := (if_neg c11).symm.trans hf
          refine lv_iconst (v := 0) hx hb dX11_reads_68 (by decide) ?_
          exact w_X11_reads_69 C0 N (f_X11_reads_42 N n) ih _ _ hf _ _ _ hP hD hS (lv_sub hl [0] rfl)
        · have hf := (if_pos c11).symm.trans hf
          exact w_X11_reads_64 C0 N (f_X11_reads_42 N n) ih _ hf _ _ _ hP hD hS (lv_sub hl [0] rfl)
set_option maxHeartbeats 4000000 in
set_option maxRecDepth 100000 in
theorem w_X11_reads_0 {p : Program} {l : Launch} {e : Env} {s : State} {m : MethodId} {args : Array Value} {below : List Frame} {meth : Method} {c : Code} {dC : Nat → ClassId} {dI : Nat → Nat → Nat} {A : Nat → Prop} {h : Nat} {ad : Nat → Nat} {cI cZ cJ : ClassId} {res : Int32 × ql_Z} (C0 : ql_C p s m args meth c cX11_reads 3 (some .boolean) wsX11_reads RX11 (dC, dI) [(cI, .int), (cZ, .boolean), (cJ, .long)] A) (N : Nat) : ∀ (z : ql_Z), f_X11_reads_0 N z = some res → ∀ (H : Heap) (locs : List Loc) (ls : Array Slot), va_P (dC, dI) vwCl ((ql_mw h ad cI cZ cJ) z) H → va_D A ((ql_mw h ad cI cZ cJ) z) → va_S A s.heap H locs → lv_has ls 3 [(0, .ref h)] → W p l e rm_X11_reads s m args below meth c H locs 0 0 (ql_Qi below (dC, dI) (ql_mw h ad cI cZ cJ) A args s res) (F0 m 0 ls []) := by
  have C0q := C0
  obtain ⟨hx, hb, hr, hml, hown, hts, hlocks, hK, hA⟩ := C0q
  have fl150 := hts (Cond.fieldLink RX11 150 "TestedLoopsModel" "at" "I") (by decide +kernel)
  have fl173 := hts (Cond.fieldLink RX11 173 "TestedLoopsModel" "open" "I") (by decide +kernel)
  have fl212 := hts (Cond.fieldLink RX11 212 "TestedLoopsModel" "frames" "I") (by decide +kernel)
  have fl22 := hts (Cond.fieldLink RX11 22 "TestedLoopsModel" "steps" "[I") (by decide +kernel)
  have fl31 := hts (Cond.fieldLink RX11 31 "TestedLoopsModel" "many" "[I") (by decide +kernel)
  have fl40 := hts (Cond.fieldLink RX11 40 "TestedLoopsModel" "statements" "[I") (by decide +kernel)
  intro z hf H locs ls hP hD hS hl
  unfold f_X11_reads_0 at hf
  refine lv_aload_n hx hb dX11_reads_0 rfl (lv_at hl 0 rfl) ?_
  refine lv_iconst (v := 0) hx hb dX11_reads_1 (by decide) ?_
  refine va_put (D := (dC, dI)) (ci := 11) (v := .int 0) (ty := .int) (C := RX11) (T := TX11) (N := 41) hx hb hts iw_X11_reads_X11 tyX11 tyX11_ok nmX11 hown hK.1 hP hD hS 0 rfl rfl 14 (by decide) fl150 (fun _ h9 => h9) rfl (by decide +kernel) rfl rfl (Nat.le_of_ble_eq_true rfl) dX11_reads_2 (fun H locs hP hD hS => ?_)
  refine lv_aload_n hx hb dX11_reads_5 rfl (lv_at hl 0 rfl) ?_
  refine lv_iconst (v := 0) hx hb dX11_reads_6 (by decide) ?_
  refine va_put (D := (dC, dI)) (ci := 11) (v := .int 0) (ty := .int) (C := RX11) (T := TX11) (N := 41) hx hb hts iw_X11_reads_X11 tyX11 tyX11_ok nmX11 hown hK.1 hP hD hS 0 rfl rfl 21 (by decide) fl173 (fun _ h9 => h9) rfl (by decide +kernel) rfl rfl (Nat.le_of_ble_eq_true rfl) dX11_reads_7 (fun H locs hP hD hS => ?_)
  refine lv_aload_n hx hb dX11_reads_10 rfl (lv_at hl 0 rfl) ?_
  refine lv_iconst (v := 0) hx hb dX11_reads_11 (by decide) ?_
  refine va_put (D := (dC, dI)) (ci := 11) (v := .int 0) (ty := .int) (C := RX11) (T := TX11) (N := 41) hx hb hts iw_X11_reads_X11 tyX11 tyX11_ok nmX11 hown hK.1 hP hD hS 0 rfl rfl 25 (by decide) fl212 (fun _ h9 => h9) rfl (by decide +kernel) rfl rfl (Nat.le_of_ble_eq_true rfl) dX11_reads_12 (fun H locs hP hD hS => ?_)
  refine lv_aload_n hx hb dX11_reads_15 rfl (lv_at hl 0 rfl) ?_
  refine va_get (D := (dC, dI)) (ci := 11) (v := .ref (ad 6)) (C := RX11) (T := TX11) (N := 41) hx hb hts iw_X11_reads_X11 hown hK.1 hP 0 rfl rfl 6 (by decide) fl22 (fun _ h9 => h9) rfl dX11_reads_16 ?_
  refine lv_iconst (v := 4) hx hb dX11_reads_19 (by decide) ?_
  refine lv_iconst (v := 0) hx hb dX11_reads_20 (by decide) ?_
  refine va_iast (f := (z.1 6)) hx hb hK.1 hP hD hS 5 0 rfl rfl (ql_in (i := 4) (n := 5) (by decide)) dX11_reads_21 (fun H locs hP hD hS => ?_)
  refine lv_aload_n hx hb dX11_reads_22 rfl (lv_at hl 0 rfl) ?_
  refine va_get (D := (dC, dI)) (ci := 11) (v := .ref (ad 9)) (C := RX11) (T := TX11) (N := 41) hx hb hts iw_X11_reads_X11 hown hK.1 hP 0 rfl rfl 9 (by decide) fl31 (fun _ h9 => h9) rfl dX11_reads_23 ?_
  refine lv_iconst (v := 4) hx hb dX11_reads_26 (by decide) ?_
  refine lv_iconst (v := 0) hx hb dX11_reads_27 (by decide) ?_
  refine va_iast (f := (z.1 9)) hx hb hK.1 hP hD hS 8 0 rfl rfl (ql_in (i := 4) (n := 5) (by decide)) dX11_reads_28 (fun H locs hP hD hS => ?_)
  refine lv_aload_n hx hb dX11_reads_29 rfl (lv_at hl 0 rfl) ?_
  refine va_get (D := (dC, dI)) (ci := 11) (v := .ref (ad 12)) (C := RX11) (T := TX11) (N := 41) hx hb hts iw_X11_reads_X11 hown hK.1 hP 0 rfl rfl 12 (by decide) fl40 (fun _ h9 => h9) rfl dX11_reads_30 ?_
  refine lv_iconst (v := 4) hx hb dX11_reads_33 (by decide) ?_
  refine lv_iconst (v := 0) hx hb dX11_reads_34 (by decide) ?_
  refine va_iast (f := (z.1 12)) hx hb hK.1 hP hD hS 11 0 rfl rfl (ql_in (i := 4) (n := 5) (by decide)) dX11_reads_35 (fun H locs hP hD hS => ?_)
  refine lv_aload_n hx hb dX11_reads_36 rfl (lv_at hl 0 rfl) ?_
  obtain ⟨u12, hu12, hf⟩ := ql_bd hf
  refine ql_callVv (As := []) (rest := []) C0 (c_X11_scans l dC dI h ad cI cZ cJ N ((ql_up (ql_up (ql_up (ql_up (ql_up (ql_up z.1 6 (upd (z.1 6) 4 0)) 9 (upd (z.1 9) 4 0)) 12 (upd (z.1 12) 4 0)) 14 (fun _ => 0)) 21 (fun _ => 0)) 25 (fun _ => 0)), z.2) u12 hu12) (cwV 0 hts gX11_reads_X11_scans rfl rfl rfl qv_X11_scans ⟨Nat.le_of_ble_eq_true rfl, Nat.le_of_ble_eq_true rfl⟩) (va_recv hK.1 hP (ci := 11) (q0 := 0) rfl rfl) hP hD hS hl.1 rfl rfl (Nat.le_of_ble_eq_true rfl) dX11_reads_37 (fun H locs hP hD hS => ?_)
  refine lv_iconst (v := 1) hx hb dX11_reads_40 (by decide) ?_
  refine lv_istore_n (lv' := [(1, .int 1), (0, .ref h)]) hx hb dX11_reads_41 rfl hl (by decide) rfl (fun ls hl => ?_)
  exact w_X11_reads_42 C0 N N _ _ hf _ _ _ hP hD hS (lv_sub hl [1, 0] rfl)
set_option maxRecDepth 100000 in
theorem c_X11_reads (l : Launch) (dC : Nat → ClassId) (dI : Nat → Nat → Nat) (h : Nat) (ad : Nat → Nat) (cI cZ cJ : ClassId) (N : Nat) (z : ql_Z) (res : Int32 × ql_Z) (hf : f_X11_reads N z = some res) : ql_Mi l yX11_reads wsX11_reads rm_X11_reads (dC, dI) [(cI, .int), (cZ, .boolean), (cJ, .long)] (ql_mw h ad cI cZ cJ) [.ref h] z res :=
  ql_start_i (by decide) rfl (Nat.le_of_ble_eq_true rfl) (fun p e s m below meth c A ls C0 hl hP hD hS => w_X11_reads_0 C0 N z hf s.heap [] ls hP hD hS (lv_sub (show lv_has ls 3 [(0, .ref h)] from hl) [0] rfl))
