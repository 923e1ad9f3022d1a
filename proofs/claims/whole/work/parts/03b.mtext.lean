/-! ===== TestedLoopsModel.type(JI)I ===== -/
abbrev rm_X11_type : Room := { frames := 1, cells := 0, slots := 0, locals := 25 }
theorem iw_X11_type_X11 : ∀ w ∈ wsX110, w ∈ wsX11_type := fun w h => List.mem_cons_of_mem _ (List.mem_append_right _ h)
theorem qv_X11_type : yX11_type.cls = RX11 ∧ yX11_type.cls ≠ "java/lang/invoke/MethodHandle" ∧ yX11_type.cls ≠ "java/lang/invoke/VarHandle" ∧ (parseMethodDescriptor yX11_type.desc).map (fun d => d.parameters.length) = some 2 := by decide +kernel
def f_X11_type_34 (N : Nat) : Nat → ql_Z → Int64 → Int32 → Option (Int32 × ql_Z)
  | 0, _, _, _ => none
  | n + 1, z, x1, x4 => if x4 < 0 then some ((z.1 2 0), z) else if ql_ib (z.1 2 0) 300 = true then f_X11_type_34 N n ((ql_up (ql_up z.1 1 (upd (z.1 1) ((z.1 2 0).toNatClampNeg) (((x1 >>> ((8 * x4).toInt64 &&& 63)) &&& 255).toInt32))) 2 (fun _ => ((z.1 2 0) + 1))), z.2) x1 (x4 + (-1)) else none
def f_X11_type_0 (N : Nat) (z : ql_Z) (x1 : Int64) (x3 : Int32) : Option (Int32 × ql_Z) := (f_X11_in N x3.toInt64 1 8).bind fun u2 => if u2 = 0 then some ((-1), z) else if ((z.1 2 0) + x3) ≤ 300 then f_X11_type_34 N N z x1 (x3 - 1) else some ((-3), z)
def f_X11_type (N : Nat) (z : ql_Z) (x1 : Int64) (x3 : Int32) : Option (Int32 × ql_Z) := f_X11_type_0 N z x1 x3
set_option maxHeartbeats 4000000 in
set_option maxRecDepth 100000 in
theorem w_X11_type_34 {p : Program} {l : Launch} {e : Env} {s : State} {m : MethodId} {args : Array Value} {below : List Frame} {meth : Method} {c : Code} {dC : Nat → ClassId} {dI : Nat → Nat → Nat} {A : Nat → Prop} {h : Nat} {ad : Nat → Nat} {cI cZ cJ : ClassId} {res : Int32 × ql_Z} (C0 : ql_C p s m args meth c cX11_type 5 (some .int) wsX11_type RX11 (dC, dI) [(cI, .int), (cZ, .boolean), (cJ, .long)] A) (N : Nat) : ∀ (n : Nat), ∀ (z : ql_Z) (x1 : Int64) (x4 : Int32), f_X11_type_34 N n z x1 x4 = some res → ∀ (H : Heap) (locs : List Loc) (ls : Array Slot), va_P (dC, dI) vwCl ((ql_mw h ad cI cZ cJ) z) H → va_D A ((ql_mw h ad cI cZ cJ) z) → va_S A s.heap H locs → lv_has ls 5 [(0, .ref h), (1, .long x1), (4, .int x4)] → W p l e rm_X11_type s m args below meth c H locs 0 0 (ql_Qi below (dC, dI) (ql_mw h ad cI cZ cJ) A args s res) (F0 m 34 ls []) := by
  have C0q := C0
  obtain ⟨hx, hb, hr, hml, hown, hts, hlocks, hK, hA⟩ := C0q
  have fl105 := hts (Cond.fieldLink RX11 105 "TestedLoopsModel" "typed" "I") (by decide +kernel)
  have fl7 := hts (Cond.fieldLink RX11 7 "TestedLoopsModel" "text" "[I") (by decide +kernel)
  have fl109 := hts (Cond.constantLong RX11 109 (255)) (by decide +kernel)
  intro n
  induction n with
  | zero =>
    intro z x1 x4 hf
    rw [f_X11_type_34] at hf
    cases hf
  | succ n ih =>
    intro z x1 x4 hf H locs ls hP hD hS hl
    rw [f_X11_type_34] at hf
    refine lv_iload hx hb dX11_type_34 (lv_at hl 2 rfl) ?_
    refine lv_if_lt (tgt := 76) hx hb dX11_type_36 (by decide) (fun c1 => ?_) (fun c1 => ?_)
    · have hf := (if_pos c1).symm.trans hf
      refine lv_aload_n hx hb dX11_type_76 rfl (lv_at hl 0 rfl) ?_
      refine va_get (D := (dC, dI)) (ci := 11) (v := .int (z.1 2 0)) (C := RX11) (T := TX11) (N := 41) hx hb hts iw_X11_type_X11 hown hK.1 hP 0 rfl rfl 2 (by decide) fl105 (fun _ h9 => h9) rfl dX11_type_77 ?_
      exact ql_iret C0 hf hP hD hS dX11_type_80
    · have hf := (if_neg c1).symm.trans hf
      refine lv_aload_n hx hb dX11_type_39 rfl (lv_at hl 0 rfl) ?_
      refine va_get (D := (dC, dI)) (ci := 11) (v := .ref (ad 1)) (C := RX11) (T := TX11) (N := 41) hx hb hts iw_X11_type_X11 hown hK.1 hP 0 rfl rfl 1 (by decide) fl7 (fun _ h9 => h9) rfl dX11_type_40 ?_
      refine lv_aload_n hx hb dX11_type_43 rfl (lv_at hl 0 rfl) ?_
      refine va_get (D := (dC, dI)) (ci := 11) (v := .int (z.1 2 0)) (C := RX11) (T := TX11) (N := 41) hx hb hts iw_X11_type_X11 hown hK.1 hP 0 rfl rfl 2 (by decide) fl105 (fun _ h9 => h9) rfl dX11_type_44 ?_
      refine lv_lload_n hx hb dX11_type_47 rfl (lv_at hl 1 rfl) ?_
      refine lv_bipush (v := 8) hx hb dX11_type_48 (by decide) ?_
      refine lv_iload hx hb dX11_type_50 (lv_at hl 2 rfl) ?_
      refine lv_imul hx hb dX11_type_52 ?_
      refine lv_lshr hx hb dX11_type_53 rfl ?_
      refine lv_ldc2 hx hb hown fl109 dX11_type_54 ?_
      refine lv_land hx hb dX11_type_57 ?_
      refine lv_l2i hx hb dX11_type_58 rfl ?_
      have g0 := ql_in (ql_gt hf)
      have hf := ql_gx hf
      refine va_iast (f := (z.1 1)) hx hb hK.1 hP hD hS 1 0 rfl rfl g0 dX11_type_59 (fun H locs hP hD hS => ?_)
      refine lv_aload_n hx hb dX11_type_60 rfl (lv_at hl 0 rfl) ?_
      refine lv_dup hx hb dX11_type_61 rfl ?_
      refine va_get (D := (dC, dI)) (ci := 11) (v := .int (z.1 2 0)) (C := RX11) (T := TX11) (N := 41) hx hb hts iw_X11_type_X11 hown hK.1 hP 0 rfl rfl 2 (by decide) fl105 (fun _ h9 => h9) rfl dX11_type_62 ?_
      refine lv_iconst (v := 1) hx hb dX11_type_65 (by decide) ?_
      refine lv_iadd hx hb dX11_type_66 ?_
      refine va_put (D := (dC, dI)) (ci := 11) (v := .int ((z.1 2 0) + 1)) (ty := .int) (C := RX11) (T := TX11) (N := 41) hx hb hts iw_X11_type_X11 tyX11 tyX11_ok nmX11 hown hK.1 hP hD hS 0 rfl rfl 2 (by decide) fl105 (fun _ h9 => h9) rfl (by decide +kernel) rfl rfl (Nat.le_of_ble_eq_true rfl) dX11_type_67 (fun H locs hP hD hS => ?_)
      refine lv_iinc (v := (x4 + (-1))) (lv' := [(4, .int (x4 + (-1))), (0, .ref h), (1, .long x1)]) hx hb dX11_type_70 hl (k := 2) rfl rfl (by decide) rfl (fun ls hl => ?_)
      refine lv_goto (tgt := 34) hx hb dX11_type_73 (by decide) ?_
      exact ih _ _ _ hf _ _ _ hP hD hS (lv_sub hl [1, 2, 0] rfl)
set_option maxHeartbeats 4000000 in
set_option maxRecDepth 100000 in
theorem w_X11_type_0 {p : Program} {l : Launch} {e : Env} {s : State} {m : MethodId} {args : Array Value} {below : List Frame} {meth : Method} {c : Code} {dC : Nat → ClassId} {dI : Nat → Nat → Nat} {A : Nat → Prop} {h : Nat} {ad : Nat → Nat} {cI cZ cJ : ClassId} {res : Int32 × ql_Z} (C0 : ql_C p s m args meth c cX11_type 5 (some .int) wsX11_type RX11 (dC, dI) [(cI, .int), (cZ, .boolean), (cJ, .long)] A) (N : Nat) : ∀ (z : ql_Z) (x1 : Int64) (x3 : Int32), f_X11_type_0 N z x1 x3 = some res → ∀ (H : Heap) (locs : List Loc) (ls : Array Slot), va_P (dC, dI) vwCl ((ql_mw h ad cI cZ cJ) z) H → va_D A ((ql_mw h ad cI cZ cJ) z) → va_S A s.heap H locs → lv_has ls 5 [(0, .ref h), (1, .long x1), (3, .int x3)] → W p l e rm_X11_type s m args below meth c H locs 0 0 (ql_Qi below (dC, dI) (ql_mw h ad cI cZ cJ) A args s res) (F0 m 0 ls []) := by
  have C0q := C0
  obtain ⟨hx, hb, hr, hml, hown, hts, hlocks, hK, hA⟩ := C0q
  have fl103 := hts (Cond.constantLong RX11 103 (8)) (by decide +kernel)
  have fl105 := hts (Cond.fieldLink RX11 105 "TestedLoopsModel" "typed" "I") (by decide +kernel)
  intro z x1 x3 hf H locs ls hP hD hS hl
  unfold f_X11_type_0 at hf
  refine lv_iload_n hx hb dX11_type_0 rfl (lv_at hl 2 rfl) ?_
  refine lv_i2l hx hb dX11_type_1 rfl ?_
  refine lv_lconst (v := 1) hx hb dX11_type_2 (by decide) ?_
  refine lv_ldc2 hx hb hown fl103 dX11_type_3 ?_
  obtain ⟨u2, hu2, hf⟩ := ql_bd hf
  refine ql_callRSi (As := [.long x3.toInt64, .long 1, .long 8]) (rest := []) C0 (c_X11_in l dC dI N x3.toInt64 1 8 u2 hu2) (va_cwS 3 hts gX11_type_X11_in rfl rfl rfl qd_X11_in ⟨Nat.le_of_ble_eq_true rfl, Nat.le_of_ble_eq_true rfl⟩) (hK.sub [] rfl) ql_nil hS hl.1 rfl rfl (Nat.le_of_ble_eq_true rfl) dX11_type_6 (fun H1 locs hk hS => ?_)
  have hP := ql_keep hP hk
  refine lv_if_ne (tgt := 14) hx hb dX11_type_9 (by decide) (fun c3 => ?_) (fun c3 => ?_)
  · have hf := (if_neg c3).symm.trans hf
    refine lv_aload_n hx hb dX11_type_14 rfl (lv_at hl 0 rfl) ?_
    refine va_get (D := (dC, dI)) (ci := 11) (v := .int (z.1 2 0)) (C := RX11) (T := TX11) (N := 41) hx hb hts iw_X11_type_X11 hown hK.1 hP 0 rfl rfl 2 (by decide) fl105 (fun _ h9 => h9) rfl dX11_type_15 ?_
    refine lv_iload_n hx hb dX11_type_18 rfl (lv_at hl 2 rfl) ?_
    refine lv_iadd hx hb dX11_type_19 ?_
    refine lv_sipush (v := 300) hx hb dX11_type_20 (by decide) ?_
    refine lv_icmp_le (tgt := 29) hx hb dX11_type_23 (by decide) (fun c4 => ?_) (fun c4 => ?_)
    · have hf := (if_pos c4).symm.trans hf
      refine lv_iload_n hx hb dX11_type_29 rfl (lv_at hl 2 rfl) ?_
      refine lv_iconst (v := 1) hx hb dX11_type_30 (by decide) ?_
      refine lv_isub hx hb dX11_type_31 ?_
      refine lv_istore (lv' := [(4, .int (x3 - 1)), (0, .ref h), (1, .long x1), (3, .int x3)]) hx hb dX11_type_32 hl (by decide) rfl (fun ls hl => ?_)
      exact w_X11_type_34 C0 N N _ _ _ hf _ _ _ hP hD hS (lv_sub hl [1, 2, 0] rfl)
    · have hf := (if_neg c4).symm.trans hf
      refine lv_bipush (v := (-3)) hx hb dX11_type_26 (by decide) ?_
      exact ql_iret C0 hf hP hD hS dX11_type_28
  · have hf := (if_pos c3).symm.trans hf
    refine lv_iconst (v := (-1)) hx hb dX11_type_12 (by decide) ?_
    exact ql_iret C0 hf hP hD hS dX11_type_13
set_option maxRecDepth 100000 in
theorem c_X11_type (l : Launch) (dC : Nat → ClassId) (dI : Nat → Nat → Nat) (h : Nat) (ad : Nat → Nat) (cI cZ cJ : ClassId) (N : Nat) (z : ql_Z) (x1 : Int64) (x3 : Int32) (res : Int32 × ql_Z) (hf : f_X11_type N z x1 x3 = some res) : ql_Mi l yX11_type wsX11_type rm_X11_type (dC, dI) [(cI, .int), (cZ, .boolean), (cJ, .long)] (ql_mw h ad cI cZ cJ) [.ref h, .long x1, .int x3] z res :=
  ql_start_i (by decide) rfl (Nat.le_of_ble_eq_true rfl) (fun p e s m below meth c A ls C0 hl hP hD hS => w_X11_type_0 C0 N z x1 x3 hf s.heap [] ls hP hD hS (lv_sub (show lv_has ls 5 [(0, .ref h), (1, .long x1), (3, .int x3)] from hl) [0, 1, 2] rfl))
/-! ===== TestedLoopsModel.clear()I ===== -/
abbrev rm_X11_clear : Room := { frames := 0, cells := 0, slots := 0, locals := 0 }
theorem iw_X11_clear_X11 : ∀ w ∈ wsX110, w ∈ wsX11_clear := fun w h => List.mem_cons_of_mem _ (List.mem_append_right _ h)
theorem qv_X11_clear : yX11_clear.cls = RX11 ∧ yX11_clear.cls ≠ "java/lang/invoke/MethodHandle" ∧ yX11_clear.cls ≠ "java/lang/invoke/VarHandle" ∧ (parseMethodDescriptor yX11_clear.desc).map (fun d => d.parameters.length) = some 0 := by decide +kernel
def f_X11_clear_0 (N : Nat) (z : ql_Z) : Option (Int32 × ql_Z) := some ((z.1 2 0), ((ql_up z.1 2 (fun _ => 0)), z.2))
def f_X11_clear (N : Nat) (z : ql_Z) : Option (Int32 × ql_Z) := f_X11_clear_0 N z
set_option maxHeartbeats 4000000 in
set_option maxRecDepth 100000 in
theorem w_X11_clear_0 {p : Program} {l : Launch} {e : Env} {s : State} {m : MethodId} {args : Array Value} {below : List Frame} {meth : Method} {c : Code} {dC : Nat → ClassId} {dI : Nat → Nat → Nat} {A : Nat → Prop} {h : Nat} {ad : Nat → Nat} {cI cZ cJ : ClassId} {res : Int32 × ql_Z} (C0 : ql_C p s m args meth c cX11_clear 2 (some .int) wsX11_clear RX11 (dC, dI) [(cI, .int), (cZ, .boolean), (cJ, .long)] A) (N : Nat) : ∀ (z : ql_Z), f_X11_clear_0 N z = some res → ∀ (H : Heap) (locs : List Loc) (ls : Array Slot), va_P (dC, dI) vwCl ((ql_mw h ad cI cZ cJ) z) H → va_D A ((ql_mw h ad cI cZ cJ) z) → va_S A s.heap H locs → lv_has ls 2 [(0, .ref h)] → W p l e rm_X11_clear s m args below meth c H locs 0 0 (ql_Qi below (dC, dI) (ql_mw h ad cI cZ cJ) A args s res) (F0 m 0 ls []) := by
  have C0q := C0
  obtain ⟨hx, hb, hr, hml, hown, hts, hlocks, hK, hA⟩ := C0q
  have fl105 := hts (Cond.fieldLink RX11 105 "TestedLoopsModel" "typed" "I") (by decide +kernel)
  intro z hf H locs ls hP hD hS hl
  unfold f_X11_clear_0 at hf
  refine lv_aload_n hx hb dX11_clear_0 rfl (lv_at hl 0 rfl) ?_
  refine va_get (D := (dC, dI)) (ci := 11) (v := .int (z.1 2 0)) (C := RX11) (T := TX11) (N := 41) hx hb hts iw_X11_clear_X11 hown hK.1 hP 0 rfl rfl 2 (by decide) fl105 (fun _ h9 => h9) rfl dX11_clear_1 ?_
  refine lv_istore_n (lv' := [(1, .int (z.1 2 0)), (0, .ref h)]) hx hb dX11_clear_4 rfl hl (by decide) rfl (fun ls hl => ?_)
  refine lv_aload_n hx hb dX11_clear_5 rfl (lv_at hl 1 rfl) ?_
  refine lv_iconst (v := 0) hx hb dX11_clear_6 (by decide) ?_
  refine va_put (D := (dC, dI)) (ci := 11) (v := .int 0) (ty := .int) (C := RX11) (T := TX11) (N := 41) hx hb hts iw_X11_clear_X11 tyX11 tyX11_ok nmX11 hown hK.1 hP hD hS 0 rfl rfl 2 (by decide) fl105 (fun _ h9 => h9) rfl (by decide +kernel) rfl rfl (Nat.le_of_ble_eq_true rfl) dX11_clear_7 (fun H locs hP hD hS => ?_)
  refine lv_iload_n hx hb dX11_clear_10 rfl (lv_at hl 0 rfl) ?_
  exact ql_iret C0 hf hP hD hS dX11_clear_11
set_option maxRecDepth 100000 in
theorem c_X11_clear (l : Launch) (dC : Nat → ClassId) (dI : Nat → Nat → Nat) (h : Nat) (ad : Nat → Nat) (cI cZ cJ : ClassId) (N : Nat) (z : ql_Z) (res : Int32 × ql_Z) (hf : f_X11_clear N z = some res) : ql_Mi l yX11_clear wsX11_clear rm_X11_clear (dC, dI) [(cI, .int), (cZ, .boolean), (cJ, .long)] (ql_mw h ad cI cZ cJ) [.ref h] z res :=
  ql_start_i (by decide) rfl (Nat.le_of_ble_eq_true rfl) (fun p e s m below meth c A ls C0 hl hP hD hS => w_X11_clear_0 C0 N z hf s.heap [] ls hP hD hS (lv_sub (show lv_has ls 2 [(0, .ref h)] from hl) [0] rfl))
/-! ===== TestedLoopsModel.wordOf(I)I ===== -/
abbrev rm_X11_wordOf : Room := { frames := 1, cells := 0, slots := 0, locals := 21 }
theorem iw_X11_wordOf_X11 : ∀ w ∈ wsX110, w ∈ wsX11_wordOf := fun w h => List.mem_cons_of_mem _ (List.mem_append_right _ h)
theorem qv_X11_wordOf : yX11_wordOf.cls = RX11 ∧ yX11_wordOf.cls ≠ "java/lang/invoke/MethodHandle" ∧ yX11_wordOf.cls ≠ "java/lang/invoke/VarHandle" ∧ (parseMethodDescriptor yX11_wordOf.desc).map (fun d => d.parameters.length) = some 1 := by decide +kernel
def f_X11_wordOf_105 (N : Nat) (z : ql_Z) (x2 : Int64) : Option (Int32) := (f_X11_longer N x2).bind fun u1 => some u1
def f_X11_wordOf_45 (N : Nat) (z : ql_Z) (k5 : Int32 → Int64 → Int32 → Option (Int32)) (x1 : Int32) (x4 : Int32) (y0 : Int64) : Option (Int32) := k5 x1 y0 (x4 + 1)
def f_X11_wordOf_5 (N : Nat) (z : ql_Z) : Nat → Int32 → Int64 → Int32 → Option (Int32)
  | 0, _, _, _ => none
  | n + 1, x1, x2, x4 => if x1 ≤ x4 then if (lg_cmp x2 2) = 0 then some 12 else if (lg_cmp x2 3) = 0 then some 13 else if (lg_cmp x2 16) < 0 then f_X11_wordOf_105 N z x2 else if 0 < (lg_cmp x2 18) then f_X11_wordOf_105 N z x2 else some ((14 + x2.toInt32) - 16) else if x1 ≤ 5 then if ql_ib ((z.1 16 0) + x4) 300 = true then f_X11_wordOf_45 N z (f_X11_wordOf_5 N z n) x1 x4 ((((32 * x2) + ((z.1 1) ((z.1 16 0) + x4).toNatClampNeg).toInt64) - 97) + 1) else none else f_X11_wordOf_45 N z (f_X11_wordOf_5 N z n) x1 x4 0
def f_X11_wordOf_0 (N : Nat) (z : ql_Z) (x1 : Int32) : Option (Int32) := f_X11_wordOf_5 N z N x1 0 0
def f_X11_wordOf (N : Nat) (z : ql_Z) (x1 : Int32) : Option (Int32) := f_X11_wordOf_0 N z x1
set_option maxHeartbeats 4000000 in
set_option maxRecDepth 100000 in
theorem w_X11_wordOf_105 {p : Program} {l : Launch} {e : Env} {s : State} {m : MethodId} {args : Array Value} {below : List Frame} {meth : Method} {c : Code} {dC : Nat → ClassId} {dI : Nat → Nat → Nat} {A : Nat → Prop} {h : Nat} {ad : Nat → Nat} {cI cZ cJ : ClassId} {res : Int32} (C0 : ql_C p s m args meth c cX11_wordOf 5 (some .int) wsX11_wordOf RX11 (dC, dI) [(cI, .int), (cZ, .boolean), (cJ, .long)] A) (N : Nat) (z : ql_Z) : ∀ (x2 : Int64), f_X11_wordOf_105 N z x2 = some res → ∀ (H : Heap) (locs : List Loc) (ls : Array Slot), va_P (dC, dI) vwCl ((ql_mw h ad cI cZ cJ) z) H → va_S A s.heap H locs → lv_has ls 5 [(0, .ref h), (2, .long x2)] → W p l e rm_X11_wordOf s m args below meth c H locs 0 0 (ql_Qri below A args s res) (F0 m 105 ls []) := by
  have C0q := C0
  obtain ⟨hx, hb, hr, hml, hown, hts, hlocks, hK, hA⟩ := C0q
  intro x2 hf H locs ls hP hS hl
  unfold f_X11_wordOf_105 at hf
  refine lv_lload_n hx hb dX11_wordOf_105 rfl (lv_at hl 1 rfl) ?_
  obtain ⟨u1, hu1, hf⟩ := ql_bd hf
  refine ql_callRSi (As := [.long x2]) (rest := []) C0 (c_X11_longer l dC dI N x2 u1 hu1) (va_cwS 1 hts gX11_wordOf_X11_longer rfl rfl rfl qd_X11_longer ⟨Nat.le_of_ble_eq_true rfl, Nat.le_of_ble_eq_true rfl⟩) (hK.sub [] rfl) ql_nil hS hl.1 rfl rfl (Nat.le_of_ble_eq_true rfl) dX11_wordOf_106 (fun H1 locs hk hS => ?_)
  have hP := ql_keep hP hk
  exact ql_riret C0 hf hS dX11_wordOf_109
set_option maxHeartbeats 4000000 in
set_option maxRecDepth 100000 in
theorem w_X11_wordOf_45 {p : Program} {l : Launch} {e : Env} {s : State} {m : MethodId} {args : Array Value} {below : List Frame} {meth : Method} {c : Code} {dC : Nat → ClassId} {dI : Nat → Nat → Nat} {A : Nat → Prop} {h : Nat} {ad : Nat → Nat} {cI cZ cJ : ClassId} {res : Int32} (C0 : ql_C p s m args meth c cX11_wordOf 5 (some .int) wsX11_wordOf RX11 (dC, dI) [(cI, .int), (cZ, .boolean), (cJ, .long)] A) (N : Nat) (z : ql_Z) (k5 : Int32 → Int64 → Int32 → Option (Int32)) (hk5 : ∀ (x1 : Int32) (x2 : Int64) (x4 : Int32), k5 x1 x2 x4 = some res → ∀ (H : Heap) (locs : List Loc) (ls : Array Slot), va_P (dC, dI) vwCl ((ql_mw h ad cI cZ cJ) z) H → va_S A s.heap H locs → lv_has ls 5 [(0, .ref h), (1, .int x1), (2, .long x2), (4, .int x4)] → W p l e rm_X11_wordOf s m args below meth c H locs 0 0 (ql_Qri below A args s res) (F0 m 5 ls [])) : ∀ (x1 : Int32) (x4 : Int32) (y0 : Int64), f_X11_wordOf_45 N z k5 x1 x4 y0 = some res → ∀ (H : Heap) (locs : List Loc) (ls : Array Slot), va_P (dC, dI) vwCl ((ql_mw h ad cI cZ cJ) z) H → va_S A s.heap H locs → lv_has ls 5 [(0, .ref h), (1, .int x1), (4, .int x4)] → W p l e rm_X11_wordOf s m args below meth c H locs 0 0 (ql_Qri below A args s res) (F0 m 45 ls [.long y0]) := by
  have C0q := C0
  obtain ⟨hx, hb, hr, hml, hown, hts, hlocks, hK, hA⟩ := C0q
  intro x1 x4 y0 hf H locs ls hP hS hl
  unfold f_X11_wordOf_45 at hf
  refine lv_lstore_n (lv' := [(2, .long y0), (0, .ref h), (1, .int x1), (4, .int x4)]) hx hb dX11_wordOf_45 rfl hl (by decide) rfl (fun ls hl => ?_)
  refine lv_iinc (v := (x4 + 1)) (lv' := [(4, .int (x4 + 1)), (2, .long y0), (0, .ref h), (1, .int x1)]) hx hb dX11_wordOf_46 hl (k := 3) rfl rfl (by decide) rfl (fun ls hl => ?_)
  refine lv_goto (tgt := 5) hx hb dX11_wordOf_49 (by decide) ?_
  exact hk5 _ _ _ hf _ _ _ hP hS (lv_sub hl [2, 3, 1, 0] rfl)
set_option maxHeartbeats 4000000 in
set_option maxRecDepth 100000 in
theorem w_X11_wordOf_5 {p : Program} {l : Launch} {e : Env} {s : State} {m : MethodId} {args : Array Value} {below : List Frame} {meth : Method} {c : Code} {dC : Nat → ClassId} {dI : Nat → Nat → Nat} {A : Nat → Prop} {h : Nat} {ad : Nat → Nat} {cI cZ cJ : ClassId} {res : Int32} (C0 : ql_C p s m args meth c cX11_wordOf 5 (some .int) wsX11_wordOf RX11 (dC, dI) [(cI, .int), (cZ, .boolean), (cJ, .long)] A) (N : Nat) (z : ql_Z) : ∀ (n : Nat), ∀ (x1 : Int32) (x2 : Int64) (x4 : Int32), f_X11_wordOf_5 N z n x1 x2 x4 = some res → ∀ (H : Heap) (locs : List Loc) (ls : Array Slot), va_P (dC, dI) vwCl ((ql_mw h ad cI cZ cJ) z) H → va_S A s.heap H locs → lv_has ls 5 [(0, .ref h), (1, .int x1), (2, .long x2), (4, .int x4)] → W p l e rm_X11_wordOf s m args below meth c H locs 0 0 (ql_Qri below A args s res) (F0 m 5 ls []) := by
  have C0q := C0
  obtain ⟨hx, hb, hr, hml, hown, hts, hlocks, hK, hA⟩ := C0q
  have fl120 := hts (Cond.constantLong RX11 120 (2)) (by decide +kernel)
  have fl97 := hts (Cond.constantLong RX11 97 (3)) (by decide +kernel)
  have fl122 := hts (Cond.constantLong RX11 122 (16)) (by decide +kernel)
  have fl124 := hts (Cond.constantLong RX11 124 (18)) (by decide +kernel)
  have fl115 := hts (Cond.constantLong RX11 115 (32)) (by decide +kernel)
  have fl7 := hts (Cond.fieldLink RX11 7 "TestedLoopsModel" "text" "[I") (by decide +kernel)
  have fl117 := hts (Cond.fieldLink RX11 117 "TestedLoopsModel" "start" "I") (by decide +kernel)
  have fl111 := hts (Cond.constantLong RX11 111 (97)) (by decide +kernel)
  intro n
  induction n with
  | zero =>
    intro x1 x2 x4 hf
    rw [f_X11_wordOf_5] at hf
    cases hf
  | succ n ih =>
    intro x1 x2 x4 hf H locs ls hP hS hl
    rw [f_X11_wordOf_5] at hf
    refine lv_iload hx hb dX11_wordOf_5 (lv_at hl 3 rfl) ?_
    refine lv_iload_n hx hb dX11_wordOf_7 rfl (lv_at hl 1 rfl) ?_
    refine lv_icmp_ge (tgt := 52) hx hb dX11_wordOf_8 (by decide) (fun c2 => ?_) (fun c2 => ?_)
    · have hf := (if_pos c2).symm.trans hf
      refine lv_lload_n hx hb dX11_wordOf_52 rfl (lv_at hl 2 rfl) ?_
      refine lv_ldc2 hx hb hown fl120 dX11_wordOf_53 ?_
      refine W.lcmp hx hb dX11_wordOf_56 ?_
      refine lv_if_ne (tgt := 65) hx hb dX11_wordOf_57 (by decide) (fun c3 => ?_) (fun c3 => ?_)
      · have hf := (if_neg c3).symm.trans hf
        refine lv_lload_n hx hb dX11_wordOf_65 rfl (lv_at hl 2 rfl) ?_
        refine lv_ldc2 hx hb hown fl97 dX11_wordOf_66 ?_
        refine W.lcmp hx hb dX11_wordOf_69 ?_
        refine lv_if_ne (tgt := 78) hx hb dX11_wordOf_70 (by decide) (fun c4 => ?_) (fun c4 => ?_)
        · have hf := (if_neg c4).symm.trans hf
          refine lv_lload_n hx hb dX11_wordOf_78 rfl (lv_at hl 2 rfl) ?_
          refine lv_ldc2 hx hb hown fl122 dX11_wordOf_79 ?_
          refine W.lcmp hx hb dX11_wordOf_82 ?_
          refine lv_if_lt (tgt := 105) hx hb dX11_wordOf_83 (by decide) (fun c5 => ?_) (fun c5 => ?_)
          · have hf := (if_pos c5).symm.trans hf
            exact w_X11_wordOf_105 C0 N z _ hf _ _ _ hP hS (lv_sub hl [0, 2] rfl)
          · have hf := (if_neg c5).symm.trans hf
            refine lv_lload_n hx hb dX11_wordOf_86 rfl (lv_at hl 2 rfl) ?_
            refine lv_ldc2 hx hb hown fl124 dX11_wordOf_87 ?_
            refine W.lcmp hx hb dX11_wordOf_90 ?_
            refine lv_if_gt (tgt := 105) hx hb dX11_wordOf_91 (by decide) (fun c6 => ?_) (fun c6 => ?_)
            · have hf := (if_pos c6).symm.trans hf
              exact w_X11_wordOf_105 C0 N z _ hf _ _ _ hP hS (lv_sub hl [0, 2] rfl)
            · have hf := (if_neg c6).symm.trans hf
              refine lv_bipush (v := 14) hx hb dX11_wordOf_94 (by decide) ?_
              refine lv_lload_n hx hb dX11_wordOf_96 rfl (lv_at hl 2 rfl) ?_
              refine lv_l2i hx hb dX11_wordOf_97 rfl ?_
              refine lv_iadd hx hb dX11_wordOf_98 ?_
              refine lv_bipush (v := 16) hx hb dX11_wordOf_99 (by decide) ?_
              refine lv_isub hx hb dX11_wordOf_101 ?_
              refine lv_goto (tgt := 109) hx hb dX11_wordOf_102 (by decide) ?_
              exact ql_riret C0 hf hS dX11_wordOf_109
        · have hf := (if_pos c4).symm.trans hf
          refine lv_bipush (v := 13) hx hb dX11_wordOf_73 (by decide) ?_
          refine lv_goto (tgt := 109) hx hb dX11_wordOf_75 (by decide) ?_
          exact ql_riret C0 hf hS dX11_wordOf_109
      · have hf := (if_pos c3).symm.trans hf
        refine lv_bipush (v := 12) hx hb dX11_wordOf_60 (by decide) ?_
        refine lv_goto (tgt := 109) hx hb dX11_wordOf_62 (by decide) ?_
        exact ql_riret C0 hf hS dX11_wordOf_109
    · have hf := (if_neg c2).symm.trans hf
      refine lv_iload_n hx hb dX11_wordOf_11 rfl (lv_at hl 1 rfl) ?_
      refine lv_iconst (v := 5) hx hb dX11_wordOf_12 (by decide) ?_
      refine lv_icmp_le (tgt := 20) hx hb dX11_wordOf_13 (by decide) (fun c7 => ?_) (fun c7 => ?_)
      · have hf := (if_pos c7).symm.trans hf
        refine lv_ldc2 hx hb hown fl115 dX11_wordOf_20 ?_
        refine lv_lload_n hx hb dX11_wordOf_23 rfl (lv_at hl 2 rfl) ?_
        refine lv_lmul hx hb dX11_wordOf_24 ?_
        refine lv_aload_n hx hb dX11_wordOf_25 rfl (lv_at hl 0 rfl) ?_
        refine va_get (D := (dC, dI)) (ci := 11) (v := .ref (ad 1)) (C := RX11) (T := TX11) (N := 41) hx hb hts iw_X11_wordOf_X11 hown hK.1 hP 0 rfl rfl 1 (by decide) fl7 (fun _ h9 => h9) rfl dX11_wordOf_26 ?_
        refine lv_aload_n hx hb dX11_wordOf_29 rfl (lv_at hl 0 rfl) ?_
        refine va_get (D := (dC, dI)) (ci := 11) (v := .int (z.1 16 0)) (C := RX11) (T := TX11) (N := 41) hx hb hts iw_X11_wordOf_X11 hown hK.1 hP 0 rfl rfl 16 (by decide) fl117 (fun _ h9 => h9) rfl dX11_wordOf_30 ?_
        refine lv_iload hx hb dX11_wordOf_33 (lv_at hl 3 rfl) ?_
        refine lv_iadd hx hb dX11_wordOf_35 ?_
        have g0 := ql_in (ql_gt hf)
        have hf := ql_gx hf
        refine va_iald (f := (z.1 1)) hx hb hK.1 hP 1 0 rfl rfl g0 dX11_wordOf_36 ?_
        refine lv_i2l hx hb dX11_wordOf_37 rfl ?_
        refine lv_ladd hx hb dX11_wordOf_38 ?_
        refine lv_ldc2 hx hb hown fl111 dX11_wordOf_39 ?_
        refine lv_lsub hx hb dX11_wordOf_42 ?_
        refine lv_lconst (v := 1) hx hb dX11_wordOf_43 (by decide) ?_
        refine lv_ladd hx hb dX11_wordOf_44 ?_
        exact w_X11_wordOf_45 C0 N z (f_X11_wordOf_5 N z n) ih _ _ _ hf _ _ _ hP hS (lv_sub hl [0, 1, 3] rfl)
      · have hf := (if_neg c7).symm.trans hf
        refine lv_lconst (v := 0) hx hb dX11_wordOf_16 (by decide) ?_
        refine lv_goto (tgt := 45) hx hb dX11_wordOf_17 (by decide) ?_
        exact w_X11_wordOf_45 C0 N z (f_X11_wordOf_5 N z n) ih _ _ _ hf _ _ _ hP hS (lv_sub hl [0, 1, 3] rfl)
set_option maxHeartbeats 4000000 in
set_option maxRecDepth 100000 in
theorem w_X11_wordOf_0 {p : Program} {l : Launch} {e : Env} {s : State} {m : MethodId} {args : Array Value} {below : List Frame} {meth : Method} {c : Code} {dC : Nat → ClassId} {dI : Nat → Nat → Nat} {A : Nat → Prop} {h : Nat} {ad : Nat → Nat} {cI cZ cJ : ClassId} {res : Int32} (C0 : ql_C p s m args meth c cX11_wordOf 5 (some .int) wsX11_wordOf RX11 (dC, dI) [(cI, .int), (cZ, .boolean), (cJ, .long)] A) (N : Nat) (z : ql_Z) : ∀ (x1 : Int32), f_X11_wordOf_0 N z x1 = some res → ∀ (H : Heap) (locs : List Loc) (ls : Array Slot), va_P (dC, dI) vwCl ((ql_mw h ad cI cZ cJ) z) H → va_S A s.heap H locs → lv_has ls 5 [(0, .ref h), (1, .int x1)] → W p l e rm_X11_wordOf s m args below meth c H locs 0 0 (ql_Qri below A args s res) (F0 m 0 ls []) := by
  have C0q := C0
  obtain ⟨hx, hb, hr, hml, hown, hts, hlocks, hK, hA⟩ := C0q
  intro x1 hf H locs ls hP hS hl
  unfold f_X11_wordOf_0 at hf
  refine lv_lconst (v := 0) hx hb dX11_wordOf_0 (by decide) ?_
  refine lv_lstore_n (lv' := [(2, .long 0), (0, .ref h), (1, .int x1)]) hx hb dX11_wordOf_1 rfl hl (by decide) rfl (fun ls hl => ?_)
  refine lv_iconst (v := 0) hx hb dX11_wordOf_2 (by decide) ?_
  refine lv_istore (lv' := [(4, .int 0), (2, .long 0), (0, .ref h), (1, .int x1)]) hx hb dX11_wordOf_3 hl (by decide) rfl (fun ls hl => ?_)
  exact w_X11_wordOf_5 C0 N z N _ _ _ hf _ _ _ hP hS (lv_sub hl [2, 3, 1, 0] rfl)
set_option maxRecDepth 100000 in
theorem c_X11_wordOf (l : Launch) (dC : Nat → ClassId) (dI : Nat → Nat → Nat) (h : Nat) (ad : Nat → Nat) (cI cZ cJ : ClassId) (N : Nat) (z : ql_Z) (x1 : Int32) (res : Int32) (hf : f_X11_wordOf N z x1 = some res) : ql_Ri l yX11_wordOf wsX11_wordOf rm_X11_wordOf (dC, dI) [(cI, .int), (cZ, .boolean), (cJ, .long)] ((ql_mw h ad cI cZ cJ) z) [.ref h, .int x1] res :=
  ql_start_ri (by decide) rfl (Nat.le_of_ble_eq_true rfl) (fun p e s m below meth c A ls C0 hl hP hS => w_X11_wordOf_0 C0 N z x1 hf s.heap [] ls hP hS (lv_sub (show lv_has ls 5 [(0, .ref h), (1, .int x1)] from hl) [0, 1] rfl))
/-! ===== TestedLoopsModel.scans()V ===== -/
abbrev rm_X11_scans : Room := { frames := 2, cells := 0, slots := 0, locals := 45 }
theorem iw_X11_scans_X11 : ∀ w ∈ wsX110, w ∈ wsX11_scans := fun w h => List.mem_cons_of_mem _ (List.mem_append_right _ h)
theorem qv_X11_scans : yX11_scans.cls = RX11 ∧ yX11_scans.cls ≠ "java/lang/invoke/MethodHandle" ∧ yX11_scans.cls ≠ "java/lang/invoke/VarHandle" ∧ (parseMethodDescriptor yX11_scans.desc).map (fun d => d.parameters.length) = some 0 := by decide +kernel
def f_X11_scans_144 (N : Nat) (z : ql_Z) : Option (ql_Z) := (f_X11_wordOf N z ((z.1 14 0) - (z.1 16 0))).bind fun u1 => some ((ql_up z.1 15 (fun _ => u1)), z.2)
def f_X11_scans_105 (N : Nat) : Nat → ql_Z → Option (ql_Z)
  | 0, _ => none
  | n + 1, z => if (z.1 2 0) ≤ (z.1 14 0) then f_X11_scans_144 N z else if ql_ib (z.1 14 0) 300 = true then (f_X11_isLetter N ((z.1 1) (z.1 14 0).toNatClampNeg)).bind fun u3 => if u3 = 0 then f_X11_scans_144 N z else f_X11_scans_105 N n ((ql_up z.1 14 (fun _ => ((z.1 14 0) + 1))), z.2) else none
def f_X11_scans_38 (N : Nat) (z : ql_Z) : Option (ql_Z) := if (z.1 14 0) = (z.1 2 0) then some ((ql_up (ql_up z.1 15 (fun _ => 0)) 16 (fun _ => (z.1 14 0))), z.2) else if ql_ib (z.1 14 0) 300 = true then (f_X11_isLetter N ((z.1 1) (z.1 14 0).toNatClampNeg)).bind fun u6 => if u6 = 0 then if ql_ib (z.1 14 0) 300 = true then (f_X11_signOf N ((z.1 1) (z.1 14 0).toNatClampNeg)).bind fun u8 => some ((ql_up (ql_up (ql_up z.1 14 (fun _ => ((z.1 14 0) + 1))) 15 (fun _ => u8)) 16 (fun _ => (z.1 14 0))), z.2) else none else f_X11_scans_105 N N ((ql_up z.1 16 (fun _ => (z.1 14 0))), z.2) else none
def f_X11_scans_0 (N : Nat) : Nat → ql_Z → Option (ql_Z)
  | 0, _ => none
  | n + 1, z => if (z.1 2 0) ≤ (z.1 14 0) then f_X11_scans_38 N z else if ql_ib (z.1 14 0) 300 = true then if ((z.1 1) (z.1 14 0).toNatClampNeg) = 32 then f_X11_scans_0 N n ((ql_up z.1 14 (fun _ => ((z.1 14 0) + 1))), z.2) else f_X11_scans_38 N z else none
def f_X11_scans (N : Nat) (z : ql_Z) : Option (ql_Z) := f_X11_scans_0 N N z
set_option maxHeartbeats 4000000 in
set_option maxRecDepth 100000 in
theorem w_X11_scans_144 {p : Program} {l : Launch} {e : Env} {s : State} {m : MethodId} {args : Array Value} {below : List Frame} {meth : Method} {c : Code} {dC : Nat → ClassId} {dI : Nat → Nat → Nat} {A : Nat → Prop} {h : Nat} {ad : Nat → Nat} {cI cZ cJ : ClassId} {res : ql_Z} (C0 : ql_C p s m args meth c cX11_scans 1 none wsX11_scans RX11 (dC, dI) [(cI, .int), (cZ, .boolean), (cJ, .long)] A) (N : Nat) : ∀ (z : ql_Z), f_X11_scans_144 N z = some res → ∀ (H : Heap) (locs : List Loc) (ls : Array Slot), va_P (dC, dI) vwCl ((ql_mw h ad cI cZ cJ) z) H → va_D A ((ql_mw h ad cI cZ cJ) z) → va_S A s.heap H locs → lv_has ls 1 [(0, .ref h)] → W p l e rm_X11_scans s m args below meth c H locs 0 0 (ql_Qv below (dC, dI) (ql_mw h ad cI cZ cJ) A args s res) (F0 m 144 ls []) := by
  have C0q := C0
  obtain ⟨hx, hb, hr, hml, hown, hts, hlocks, hK, hA⟩ := C0q
  have fl150 := hts (Cond.fieldLink RX11 150 "TestedLoopsModel" "at" "I") (by decide +kernel)
  have fl117 := hts (Cond.fieldLink RX11 117 "TestedLoopsModel" "start" "I") (by decide +kernel)
  have fl153 := hts (Cond.fieldLink RX11 153 "TestedLoopsModel" "token" "I") (by decide +kernel)
  intro z hf H locs ls hP hD hS hl
  unfold f_X11_scans_144 at hf
  refine lv_aload_n hx hb dX11_scans_144 rfl (lv_at hl 0 rfl) ?_
  refine lv_aload_n hx hb dX11_scans_145 rfl (lv_at hl 0 rfl) ?_
  refine lv_aload_n hx hb dX11_scans_146 rfl (lv_at hl 0 rfl) ?_
  refine va_get (D := (dC, dI)) (ci := 11) (v := .int (z.1 14 0)) (C := RX11) (T := TX11) (N := 41) hx hb hts iw_X11_scans_X11 hown hK.1 hP 0 rfl rfl 14 (by decide) fl150 (fun _ h9 => h9) rfl dX11_scans_147 ?_
  refine lv_aload_n hx hb dX11_scans_150 rfl (lv_at hl 0 rfl) ?_
  refine va_get (D := (dC, dI)) (ci := 11) (v := .int (z.1 16 0)) (C := RX11) (T := TX11) (N := 41) hx hb hts iw_X11_scans_X11 hown hK.1 hP 0 rfl rfl 16 (by decide) fl117 (fun _ h9 => h9) rfl dX11_scans_151 ?_
  refine lv_isub hx hb dX11_scans_154 ?_
  obtain ⟨u1, hu1, hf⟩ := ql_bd hf
  refine ql_callRVi (As := [.int ((z.1 14 0) - (z.1 16 0))]) (rest := [.ref h]) C0 (c_X11_wordOf l dC dI h ad cI cZ cJ N z ((z.1 14 0) - (z.1 16 0)) u1 hu1) (cwV 1 hts gX11_scans_X11_wordOf rfl rfl rfl qv_X11_wordOf ⟨Nat.le_of_ble_eq_true rfl, Nat.le_of_ble_eq_true rfl⟩) (va_recv hK.1 hP (ci := 11) (q0 := 0) rfl rfl) hK hP hS hl.1 rfl rfl (Nat.le_of_ble_eq_true rfl) dX11_scans_155 (fun H1 locs hk hS => ?_)
  have hP := ql_keep hP hk
  refine va_put (D := (dC, dI)) (ci := 11) (v := .int u1) (ty := .int) (C := RX11) (T := TX11) (N := 41) hx hb hts iw_X11_scans_X11 tyX11 tyX11_ok nmX11 hown hK.1 hP hD hS 0 rfl rfl 15 (by decide) fl153 (fun _ h9 => h9) rfl (by decide +kernel) rfl rfl (Nat.le_of_ble_eq_true rfl) dX11_scans_158 (fun H locs hP hD hS => ?_)
  exact ql_vret C0 hf hP hD hS dX11_scans_161
set_option maxHeartbeats 4000000 in
set_option maxRecDepth 100000 in
theorem w_X11_scans_105 {p : Program} {l : Launch} {e : Env} {s : State} {m : MethodId} {args : Array Value} {below : List Frame} {meth : Method} {c : Code} {dC : Nat → ClassId} {dI : Nat → Nat → Nat} {A : Nat → Prop} {h : Nat} {ad : Nat → Nat} {cI cZ cJ : ClassId} {res : ql_Z} (C0 : ql_C p s m args meth c cX11_scans 1 none wsX11_scans RX11 (dC, dI) [(cI, .int), (cZ, .boolean), (cJ, .long)] A) (N : Nat) : ∀ (n : Nat), ∀ (z : ql_Z), f_X11_scans_105 N n z = some res → ∀ (H : Heap) (locs : List Loc) (ls : Array Slot), va_P (dC, dI) vwCl ((ql_mw h ad cI cZ cJ) z) H → va_D A ((ql_mw h ad cI cZ cJ) z) → va_S A s.heap H locs → lv_has ls 1 [(0, .ref h)] → W p l e rm_X11_scans s m args below meth c H locs 0 0 (ql_Qv below (dC, dI) (ql_mw h ad cI cZ cJ) A args s res) (F0 m 105 ls []) := by
  have C0q := C0
  obtain ⟨hx, hb, hr, hml, hown, hts, hlocks, hK, hA⟩ := C0q
  have fl150 := hts (Cond.fieldLink RX11 150 "TestedLoopsModel" "at" "I") (by decide +kernel)
  have fl105 := hts (Cond.fieldLink RX11 105 "TestedLoopsModel" "typed" "I") (by decide +kernel)
  have fl7 := hts (Cond.fieldLink RX11 7 "TestedLoopsModel" "text" "[I") (by decide +kernel)
  intro n
  induction n with
  | zero =>
    intro z hf
    rw [f_X11_scans_105] at hf
    cases hf
  | succ n ih =>
    intro z hf H locs ls hP hD hS hl
    rw [f_X11_scans_105] at hf
    refine lv_aload_n hx hb dX11_scans_105 rfl (lv_at hl 0 rfl) ?_
    refine va_get (D := (dC, dI)) (ci := 11) (v := .int (z.1 14 0)) (C := RX11) (T := TX11) (N := 41) hx hb hts iw_X11_scans_X11 hown hK.1 hP 0 rfl rfl 14 (by decide) fl150 (fun _ h9 => h9) rfl dX11_scans_106 ?_
    refine lv_aload_n hx hb dX11_scans_109 rfl (lv_at hl 0 rfl) ?_
    refine va_get (D := (dC, dI)) (ci := 11) (v := .int (z.1 2 0)) (C := RX11) (T := TX11) (N := 41) hx hb hts iw_X11_scans_X11 hown hK.1 hP 0 rfl rfl 2 (by decide) fl105 (fun _ h9 => h9) rfl dX11_scans_110 ?_
    refine lv_icmp_ge (tgt := 144) hx hb dX11_scans_113 (by decide) (fun c2 => ?_) (fun c2 => ?_)
    · have hf := (if_pos c2).symm.trans hf
      exact w_X11_scans_144 C0 N _ hf _ _ _ hP hD hS (lv_sub hl [0] rfl)
    · have hf := (if_neg c2).symm.trans hf
      refine lv_aload_n hx hb dX11_scans_116 rfl (lv_at hl 0 rfl) ?_
      refine va_get (D := (dC, dI)) (ci := 11) (v := .ref (ad 1)) (C := RX11) (T := TX11) (N := 41) hx hb hts iw_X11_scans_X11 hown hK.1 hP 0 rfl rfl 1 (by decide) fl7 (fun _ h9 => h9) rfl dX11_scans_117 ?_
      refine lv_aload_n hx hb dX11_scans_120 rfl (lv_at hl 0 rfl) ?_
      refine va_get (D := (dC, dI)) (ci := 11) (v := .int (z.1 14 0)) (C := RX11) (T := TX11) (N := 41) hx hb hts iw_X11_scans_X11 hown hK.1 hP 0 rfl rfl 14 (by decide) fl150 (fun _ h9 => h9) rfl dX11_scans_121 ?_
      have g0 := ql_in (ql_gt hf)
      have hf := ql_gx hf
      refine va_iald (f := (z.1 1)) hx hb hK.1 hP 1 0 rfl rfl g0 dX11_scans_124 ?_
      obtain ⟨u3, hu3, hf⟩ := ql_bd hf
      refine ql_callRSi (As := [.int ((z.1 1) (z.1 14 0).toNatClampNeg)]) (rest := []) C0 (c_X11_isLetter l dC dI N ((z.1 1) (z.1 14 0).toNatClampNeg) u3 hu3) (va_cwS 1 hts gX11_scans_X11_isLetter rfl rfl rfl qd_X11_isLetter ⟨Nat.le_of_ble_eq_true rfl, Nat.le_of_ble_eq_true rfl⟩) (hK.sub [] rfl) ql_nil hS hl.1 rfl rfl (Nat.le_of_ble_eq_true rfl) dX11_scans_125 (fun H1 locs hk hS => ?_)
      have hP := ql_keep hP hk
      refine lv_if_eq (tgt := 144) hx hb dX11_scans_128 (by decide) (fun c4 => ?_) (fun c4 => ?_)
      · have hf := (if_pos c4).symm.trans hf
        exact w_X11_scans_144 C0 N _ hf _ _ _ hP hD hS (lv_sub hl [0] rfl)
      · have hf := (if_neg c4).symm.trans hf
        refine lv_aload_n hx hb dX11_scans_131 rfl (lv_at hl 0 rfl) ?_
        refine lv_dup hx hb dX11_scans_132 rfl ?_
        refine va_get (D := (dC, dI)) (ci := 11) (v := .int (z.1 14 0)) (C := RX11) (T := TX11) (N := 41) hx hb hts iw_X11_scans_X11 hown hK.1 hP 0 rfl rfl 14 (by decide) fl150 (fun _ h9 => h9) rfl dX11_scans_133 ?_
        refine lv_iconst (v := 1) hx hb dX11_scans_136 (by decide) ?_
        refine lv_iadd hx hb dX11_scans_137 ?_
        refine va_put (D := (dC, dI)) (ci := 11) (v := .int ((z.1 14 0) + 1)) (ty := .int) (C := RX11) (T := TX11) (N := 41) hx hb hts iw_X11_scans_X11 tyX11 tyX11_ok nmX11 hown hK.1 hP hD hS 0 rfl rfl 14 (by decide) fl150 (fun _ h9 => h9) rfl (by decide +kernel) rfl rfl (Nat.le_of_ble_eq_true rfl) dX11_scans_138 (fun H locs hP hD hS => ?_)
        refine lv_goto (tgt := 105) hx hb dX11_scans_141 (by decide) ?_
        exact ih _ hf _ _ _ hP hD hS (lv_sub hl [0] rfl)
set_option maxHeartbeats 4000000 in
set_option maxRecDepth 100000 in
theorem w_X11_scans_38 {p : Program} {l : Launch} {e : Env} {s : State} {m : MethodId} {args : Array Value} {below : List Frame} {meth : Method} {c : Code} {dC : Nat → ClassId} {dI : Nat → Nat → Nat} {A : Nat → Prop} {h : Nat} {ad : Nat → Nat} {cI cZ cJ : ClassId} {res : ql_Z} (C0 : ql_C p s m args meth c cX11_scans 1 none wsX11_scans RX11 (dC, dI) [(cI, .int), (cZ, .boolean), (cJ, .long)] A) (N : Nat) : ∀ (z : ql_Z), f_X11_scans_38 N z = some res → ∀ (H : Heap) (locs : List Loc) (ls : Array Slot), va_P (dC, dI) vwCl ((ql_mw h ad cI cZ cJ) z) H → va_D A ((ql_mw h ad cI cZ cJ) z) → va_S A s.heap H locs → lv_has ls 1 [(0, .ref h)] → W p l e rm_X11_scans s m args below meth c H locs 0 0 (ql_Qv below (dC, dI) (ql_mw h ad cI cZ cJ) A args s res) (F0 m 38 ls []) := by
  have C0q := C0
  obtain ⟨hx, hb, hr, hml, hown, hts, hlocks, hK, hA⟩ := C0q
  have fl150 := hts (Cond.fieldLink RX11 150 "TestedLoopsModel" "at" "I") (by decide +kernel)
  have fl117 := hts (Cond.fieldLink RX11 117 "TestedLoopsModel" "start" "I") (by decide +kernel)
  have fl105 := hts (Cond.fieldLink RX11 105 "TestedLoopsModel" "typed" "I") (by decide +kernel)
  have fl7 := hts (Cond.fieldLink RX11 7 "TestedLoopsModel" "text" "[I") (by decide +kernel)
  have fl153 := hts (Cond.fieldLink RX11 153 "TestedLoopsModel" "token" "I") (by decide +kernel)
  intro z hf H locs ls hP hD hS hl
  unfold f_X11_scans_38 at hf
  refine lv_aload_n hx hb dX11_scans_38 rfl (lv_at hl 0 rfl) ?_
  refine lv_aload_n hx hb dX11_scans_39 rfl (lv_at hl 0 rfl) ?_
  refine va_get (D := (dC, dI)) (ci := 11) (v := .int (z.1 14 0)) (C := RX11) (T := TX11) (N := 41) hx hb hts iw_X11_scans_X11 hown hK.1 hP 0 rfl rfl 14 (by decide) fl150 (fun _ h9 => h9) rfl dX11_scans_40 ?_
  refine va_put (D := (dC, dI)) (ci := 11) (v := .int (z.1 14 0)) (ty := .int) (C := RX11) (T := TX11) (N := 41) hx hb hts iw_X11_scans_X11 tyX11 tyX11_ok nmX11 hown hK.1 hP hD hS 0 rfl rfl 16 (by decide) fl117 (fun _ h9 => h9) rfl (by decide +kernel) rfl rfl (Nat.le_of_ble_eq_true rfl) dX11_scans_43 (fun H locs hP hD hS => ?_)
  refine lv_aload_n hx hb dX11_scans_46 rfl (lv_at hl 0 rfl) ?_
  refine va_get (D := (dC, dI)) (ci := 11) (v := .int (z.1 14 0)) (C := RX11) (T := TX11) (N := 41) hx hb hts iw_X11_scans_X11 hown hK.1 hP 0 rfl rfl 14 (by decide) fl150 (fun _ h9 => h9) rfl dX11_scans_47 ?_
  refine lv_aload_n hx hb dX11_scans_50 rfl (lv_at hl 0 rfl) ?_
  refine va_get (D := (dC, dI)) (ci := 11) (v := .int (z.1 2 0)) (C := RX11) (T := TX11) (N := 41) hx hb hts iw_X11_scans_X11 hown hK.1 hP 0 rfl rfl 2 (by decide) fl105 (fun _ h9 => h9) rfl dX11_scans_51 ?_
  refine lv_icmp_ne (tgt := 63) hx hb dX11_scans_54 (by decide) (fun c5 => ?_) (fun c5 => ?_)
  · have hf := (if_neg c5).symm.trans hf
    refine lv_aload_n hx hb dX11_scans_63 rfl (lv_at hl 0 rfl) ?_
    refine va_get (D := (dC, dI)) (ci := 11) (v := .ref (ad 1)) (C := RX11) (T := TX11) (N := 41) hx hb hts iw_X11_scans_X11 hown hK.1 hP 0 rfl rfl 1 (by decide) fl7 (fun _ h9 => h9) rfl dX11_scans_64 ?_
    refine lv_aload_n hx hb dX11_scans_67 rfl (lv_at hl 0 rfl) ?_
    refine va_get (D := (dC, dI)) (ci := 11) (v := .int (z.1 14 0)) (C := RX11) (T := TX11) (N := 41) hx hb hts iw_X11_scans_X11 hown hK.1 hP 0 rfl rfl 14 (by decide) fl150 (fun _ h9 => h9) rfl dX11_scans_68 ?_
    have g0 := ql_in (ql_gt hf)
    have hf := ql_gx hf
    refine va_iald (f := (z.1 1)) hx hb hK.1 hP 1 0 rfl rfl g0 dX11_scans_71 ?_
    obtain ⟨u6, hu6, hf⟩ := ql_bd hf
    refine ql_callRSi (As := [.int ((z.1 1) (z.1 14 0).toNatClampNeg)]) (rest := []) C0 (c_X11_isLetter l dC dI N ((z.1 1) (z.1 14 0).toNatClampNeg) u6 hu6) (va_cwS 1 hts gX11_scans_X11_isLetter rfl rfl rfl qd_X11_isLetter ⟨Nat.le_of_ble_eq_true rfl, Nat.le_of_ble_eq_true rfl⟩) (hK.sub [] rfl) ql_nil hS hl.1 rfl rfl (Nat.le_of_ble_eq_true rfl) dX11_scans_72 (fun H1 locs hk hS => ?_)
    have hP := ql_keep hP hk
    refine lv_if_ne (tgt := 105) hx hb dX11_scans_75 (by decide) (fun c7 => ?_) (fun c7 => ?_)
    · have hf := (if_neg c7).symm.trans hf
      exact w_X11_scans_105 C0 N N _ hf _ _ _ hP hD hS (lv_sub hl [0] rfl)
    · have hf := (if_pos c7).symm.trans hf
      refine lv_aload_n hx hb dX11_scans_78 rfl (lv_at hl 0 rfl) ?_
      refine lv_aload_n hx hb dX11_scans_79 rfl (lv_at hl 0 rfl) ?_
      refine va_get (D := (dC, dI)) (ci := 11) (v := .ref (ad 1)) (C := RX11) (T := TX11) (N := 41) hx hb hts iw_X11_scans_X11 hown hK.1 hP 0 rfl rfl 1 (by decide) fl7 (fun _ h9 => h9) rfl dX11_scans_80 ?_
      refine lv_aload_n hx hb dX11_scans_83 rfl (lv_at hl 0 rfl) ?_
      refine va_get (D := (dC, dI)) (ci := 11) (v := .int (z.1 14 0)) (C := RX11) (T := TX11) (N := 41) hx hb hts iw_X11_scans_X11 hown hK.1 hP 0 rfl rfl 14 (by decide) fl150 (fun _ h9 => h9) rfl dX11_scans_84 ?_
      have g0 := ql_in (ql_gt hf)
      have hf := ql_gx hf
      refine va_iald (f := (z.1 1)) hx hb hK.1 hP 1 0 rfl rfl g0 dX11_scans_87 ?_
      obtain ⟨u8, hu8, hf⟩ := ql_bd hf
      refine ql_callRSi (As := [.int ((z.1 1) (z.1 14 0).toNatClampNeg)]) (rest := [.ref h]) C0 (c_X11_signOf l dC dI N ((z.1 1) (z.1 14 0).toNatClampNeg) u8 hu8) (va_cwS 1 hts gX11_scans_X11_signOf rfl rfl rfl qd_X11_signOf ⟨Nat.le_of_ble_eq_true rfl, Nat.le_of_ble_eq_true rfl⟩) (hK.sub [] rfl) ql_nil hS hl.1 rfl rfl (Nat.le_of_ble_eq_true rfl) dX11_scans_88 (fun H1 locs hk hS => ?_)
      have hP := ql_keep hP hk
      refine va_put (D := (dC, dI)) (ci := 11) (v := .int u8) (ty := .int) (C := RX11) (T := TX11) (N := 41) hx hb hts iw_X11_scans_X11 tyX11 tyX11_ok nmX11 hown hK.1 hP hD hS 0 rfl rfl 15 (by decide) fl153 (fun _ h9 => h9) rfl (by decide +kernel) rfl rfl (Nat.le_of_ble_eq_true rfl) dX11_scans_91 (fun H locs hP hD hS => ?_)
      refine lv_aload_n hx hb dX11_scans_94 rfl (lv_at hl 0 rfl) ?_
      refine lv_dup hx hb dX11_scans_95 rfl ?_
      refine va_get (D := (dC, dI)) (ci := 11) (v := .int (z.1 14 0)) (C := RX11) (T := TX11) (N := 41) hx hb hts iw_X11_scans_X11 hown hK.1 hP 0 rfl rfl 14 (by decide) fl150 (fun _ h9 => h9) rfl dX11_scans_96 ?_
      refine lv_iconst (v := 1) hx hb dX11_scans_99 (by decide) ?_
      refine lv_iadd hx hb dX11_scans_100 ?_
      refine va_put (D := (dC, dI)) (ci := 11) (v := .int ((z.1 14 0) + 1)) (ty := .int) (C := RX11) (T := TX11) (N := 41) hx hb hts iw_X11_scans_X11 tyX11 tyX11_ok nmX11 hown hK.1 hP hD hS 0 rfl rfl 14 (by decide) fl150 (fun _ h9 => h9) rfl (by decide +kernel) rfl rfl (Nat.le_of_ble_eq_true rfl) dX11_scans_101 (fun H locs hP hD hS => ?_)
      exact ql_vret C0 hf hP hD hS dX11_scans_104
  · have hf := (if_pos c5).symm.trans hf
    refine lv_aload_n hx hb dX11_scans_57 rfl (lv_at hl 0 rfl) ?_
    refine lv_iconst (v := 0) hx hb dX11_scans_58 (by decide) ?_
    refine va_put (D := (dC, dI)) (ci := 11) (v := .int 0) (ty := .int) (C := RX11) (T := TX11) (N := 41) hx hb hts iw_X11_scans_X11 tyX11 tyX11_ok nmX11 hown hK.1 hP hD hS 0 rfl rfl 15 (by decide) fl153 (fun _ h9 => h9) rfl (by decide +kernel) rfl rfl (Nat.le_of_ble_eq_true rfl) dX11_scans_59 (fun H locs hP hD hS => ?_)
    exact ql_vret C0 hf hP hD hS dX11_scans_62
set_option maxHeartbeats 4000000 in
set_option maxRecDepth 100000 in
theorem w_X11_scans_0 {p : Program} {l : Launch} {e : Env} {s : State} {m : MethodId} {args : Array Value} {below : List Frame} {meth : Method} {c : Code} {dC : Nat → ClassId} {dI : Nat → Nat → Nat} {A : Nat → Prop} {h : Nat} {ad : Nat → Nat} {cI cZ cJ : ClassId} {res : ql_Z} (C0 : ql_C p s m args meth c cX11_scans 1 none wsX11_scans RX11 (dC, dI) [(cI, .int), (cZ, .boolean), (cJ, .long)] A) (N : Nat) : ∀ (n : Nat), ∀ (z : ql_Z), f_X11_scans_0 N n z = some res → ∀ (H : Heap) (locs : List Loc) (ls : Array Slot), va_P (dC, dI) vwCl ((ql_mw h ad cI cZ cJ) z) H → va_D A ((ql_mw h ad cI cZ cJ) z) → va_S A s.heap H locs → lv_has ls 1 [(0, .ref h)] → W p l e rm_X11_scans s m args below meth c H locs 0 0 (ql_Qv below (dC, dI) (ql_mw h ad cI cZ cJ) A args s res) (F0 m 0 ls []) := by
  have C0q := C0
  obtain ⟨hx, hb, hr, hml, hown, hts, hlocks, hK, hA⟩ := C0q
  have fl150 := hts (Cond.fieldLink RX11 150 "TestedLoopsModel" "at" "I") (by decide +kernel)
  have fl105 := hts (Cond.fieldLink RX11 105 "TestedLoopsModel" "typed" "I") (by decide +kernel)
  have fl7 := hts (Cond.fieldLink RX11 7 "TestedLoopsModel" "text" "[I") (by decide +kernel)
  intro n
  induction n with
  | zero =>
    intro z hf
    rw [f_X11_scans_0] at hf
    cases hf
  | succ n ih =>
    intro z hf H locs ls hP hD hS hl
    rw [f_X11_scans_0] at hf
    refine lv_aload_n hx hb dX11_scans_0 rfl (lv_at hl 0 rfl) ?_
    refine va_get (D := (dC, dI)) (ci := 11) (v := .int (z.1 14 0)) (C := RX11) (T := TX11) (N := 41) hx hb hts iw_X11_scans_X11 hown hK.1 hP 0 rfl rfl 14 (by decide) fl150 (fun _ h9 => h9) rfl dX11_scans_1 ?_
    refine lv_aload_n hx hb dX11_scans_4 rfl (lv_at hl 0 rfl) ?_
    refine va_get (D := (dC, dI)) (ci := 11) (v := .int (z.1 2 0)) (C := RX11) (T := TX11) (N := 41) hx hb hts iw_X11_scans_X11 hown hK.1 hP 0 rfl rfl 2 (by decide) fl105 (fun _ h9 => h9) rfl dX11_scans_5 ?_
    refine lv_icmp_ge (tgt := 38) hx hb dX11_scans_8 (by decide) (fun c9 => ?_) (fun c9 => ?_)
    · have hf := (if_pos c9).symm.trans hf
      exact w_X11_scans_38 C0 N _ hf _ _ _ hP hD hS (lv_sub hl [0] rfl)
    · have hf := (if_neg c9).symm.trans hf
      refine lv_aload_n hx hb dX11_scans_11 rfl (lv_at hl 0 rfl) ?_
      refine va_get (D := (dC, dI)) (ci := 11) (v := .ref (ad 1)) (C := RX11) (T := TX11) (N := 41) hx hb hts iw_X11_scans_X11 hown hK.1 hP 0 rfl rfl 1 (by decide) fl7 (fun _ h9 => h9) rfl dX11_scans_12 ?_
      refine lv_aload_n hx hb dX11_scans_15 rfl (lv_at hl 0 rfl) ?_
      refine va_get (D := (dC, dI)) (ci := 11) (v := .int (z.1 14 0)) (C := RX11) (T := TX11) (N := 41) hx hb hts iw_X11_scans_X11 hown hK.1 hP 0 rfl rfl 14 (by decide) fl150 (fun _ h9 => h9) rfl dX11_scans_16 ?_
      have g0 := ql_in (ql_gt hf)
      have hf := ql_gx hf
      refine va_iald (f := (z.1 1)) hx hb hK.1 hP 1 0 rfl rfl g0 dX11_scans_19 ?_
      refine lv_bipush (v := 32) hx hb dX11_scans_20 (by decide) ?_
      refine lv_icmp_ne (tgt := 38) hx hb dX11_scans_22 (by decide) (fun c10 => ?_) (fun c10 => ?_)
      · have hf := (if_neg c10).symm.trans hf
        exact w_X11_scans_38 C0 N _ hf _ _ _ hP hD hS (lv_sub hl [0] rfl)
      · have hf := (if_pos c10).symm.trans hf
        refine lv_aload_n hx hb dX11_scans_25 rfl (lv_at hl 0 rfl) ?_
        refine lv_dup hx hb dX11_scans_26 rfl ?_
        refine va_get (D := (dC, dI)) (ci := 11) (v := .int (z.1 14 0)) (C := RX11) (T := TX11) (N := 41) hx hb hts iw_X11_scans_X11 hown hK.1 hP 0 rfl rfl 14 (by decide) fl150 (fun _ h9 => h9) rfl dX11_scans_27 ?_
        refine lv_iconst (v := 1) hx hb dX11_scans_30 (by decide) ?_
        refine lv_iadd hx hb dX11_scans_31 ?_
        refine va_put (D := (dC, dI)) (ci := 11) (v := .int ((z.1 14 0) + 1)) (ty := .int) (C := RX11) (T := TX11) (N := 41) hx hb hts iw_X11_scans_X11 tyX11 tyX11_ok nmX11 hown hK.1 hP hD hS 0 rfl rfl 14 (by decide) fl150 (fun _ h9 => h9) rfl (by decide +kernel) rfl rfl (Nat.le_of_ble_eq_true rfl) dX11_scans_32 (fun H locs hP hD hS => ?_)
        refine lv_goto (tgt := 0) hx hb dX11_scans_35 (by decide) ?_
        exact ih _ hf _ _ _ hP hD hS (lv_sub hl [0] rfl)
set_option maxRecDepth 100000 in
theorem c_X11_scans (l : Launch) (dC : Nat → ClassId) (dI : Nat → Nat → Nat) (h : Nat) (ad : Nat → Nat) (cI cZ cJ : ClassId) (N : Nat) (z : ql_Z) (res : ql_Z) (hf : f_X11_scans N z = some res) : ql_Mv l yX11_scans wsX11_scans rm_X11_scans (dC, dI) [(cI, .int), (cZ, .boolean), (cJ, .long)] (ql_mw h ad cI cZ cJ) [.ref h] z res :=
  ql_start_v (by decide) rfl (Nat.le_of_ble_eq_true rfl) (fun p e s m below meth c A ls C0 hl hP hD hS => w_X11_scans_0 C0 N N z hf s.heap [] ls hP hD hS (lv_sub (show lv_has ls 1 [(0, .ref h)] from hl) [0] rfl))
