/-! ===== TestedLoopsModel.meets(IIII)V ===== -/
abbrev rm_X11_meets : Room := { frames := 0, cells := 0, slots := 0, locals := 0 }
theorem iw_X11_meets_X11 : ∀ w ∈ wsX110, w ∈ wsX11_meets := fun w h => List.mem_cons_of_mem _ (List.mem_append_right _ h)
theorem qv_X11_meets : yX11_meets.cls = RX11 ∧ yX11_meets.cls ≠ "java/lang/invoke/MethodHandle" ∧ yX11_meets.cls ≠ "java/lang/invoke/VarHandle" ∧ (parseMethodDescriptor yX11_meets.desc).map (fun d => d.parameters.length) = some 4 := by decide +kernel
def f_X11_meets_91 (N : Nat) (z : ql_Z) (y0 : Int32) (y1 : Int32) : Option (ql_Z) := if ql_ib y1 324 = true then some ((ql_up (ql_up z.1 29 (upd (z.1 29) y1.toNatClampNeg y0)) 31 (fun _ => ((z.1 31 0) + 1))), z.2) else none
def f_X11_meets_0 (N : Nat) (z : ql_Z) (x1 : Int32) (x2 : Int32) (x3 : Int32) (x4 : Int32) : Option (ql_Z) := if (((18 * (x1 + 1)) + x2) + 1) ≤ 0 then some z else if ql_ib (((18 * (x1 + 1)) + x2) + 1) 324 = true then if ((z.1 30) (((18 * (x1 + 1)) + x2) + 1).toNatClampNeg) = 0 then if ql_ib (((18 * (x1 + 1)) + x2) + 1) 324 = true then if ql_ib (z.1 31 0) 324 = true then if ql_ib (z.1 31 0) 324 = true then if ql_ib (z.1 31 0) 324 = true then if 0 ≤ x3 then if ql_ib x3 324 = true then f_X11_meets_91 N ((ql_up (ql_up (ql_up (ql_up z.1 26 (upd (z.1 26) ((z.1 31 0).toNatClampNeg) (((18 * (x1 + 1)) + x2) + 1))) 27 (upd (z.1 27) ((z.1 31 0).toNatClampNeg) x3)) 28 (upd (z.1 28) ((z.1 31 0).toNatClampNeg) x4)) 30 (upd (z.1 30) ((((18 * (x1 + 1)) + x2) + 1).toNatClampNeg) (vp_nar .boolean 1))), z.2) (((z.1 29) x3.toNatClampNeg) + 1) (z.1 31 0) else none else f_X11_meets_91 N ((ql_up (ql_up (ql_up (ql_up z.1 26 (upd (z.1 26) ((z.1 31 0).toNatClampNeg) (((18 * (x1 + 1)) + x2) + 1))) 27 (upd (z.1 27) ((z.1 31 0).toNatClampNeg) x3)) 28 (upd (z.1 28) ((z.1 31 0).toNatClampNeg) x4)) 30 (upd (z.1 30) ((((18 * (x1 + 1)) + x2) + 1).toNatClampNeg) (vp_nar .boolean 1))), z.2) 0 (z.1 31 0) else none else none else none else none else some z else none
def f_X11_meets (N : Nat) (z : ql_Z) (x1 : Int32) (x2 : Int32) (x3 : Int32) (x4 : Int32) : Option (ql_Z) := f_X11_meets_0 N z x1 x2 x3 x4
set_option maxHeartbeats 4000000 in
set_option maxRecDepth 100000 in
theorem w_X11_meets_91 {p : Program} {l : Launch} {e : Env} {s : State} {m : MethodId} {args : Array Value} {below : List Frame} {meth : Method} {c : Code} {dC : Nat → ClassId} {dI : Nat → Nat → Nat} {A : Nat → Prop} {h : Nat} {ad : Nat → Nat} {cI cZ cJ : ClassId} {res : ql_Z} (C0 : ql_C p s m args meth c cX11_meets 6 none wsX11_meets RX11 (dC, dI) [(cI, .int), (cZ, .boolean), (cJ, .long)] A) (N : Nat) : ∀ (z : ql_Z) (y0 : Int32) (y1 : Int32), f_X11_meets_91 N z y0 y1 = some res → ∀ (H : Heap) (locs : List Loc) (ls : Array Slot), va_P (dC, dI) vwCl ((ql_mw h ad cI cZ cJ) z) H → va_D A ((ql_mw h ad cI cZ cJ) z) → va_S A s.heap H locs → lv_has ls 6 [(0, .ref h)] → W p l e rm_X11_meets s m args below meth c H locs 0 0 (ql_Qv below (dC, dI) (ql_mw h ad cI cZ cJ) A args s res) (F0 m 91 ls [.int y0, .int y1, .ref (ad 29)]) := by
  have C0q := C0
  obtain ⟨hx, hb, hr, hml, hown, hts, hlocks, hK, hA⟩ := C0q
  have fl246 := hts (Cond.fieldLink RX11 246 "TestedLoopsModel" "queued" "I") (by decide +kernel)
  intro z y0 y1 hf H locs ls hP hD hS hl
  unfold f_X11_meets_91 at hf
  have g0 := ql_in (ql_gt hf)
  have hf := ql_gx hf
  refine va_iast (f := (z.1 29)) hx hb hK.1 hP hD hS 21 0 rfl rfl g0 dX11_meets_91 (fun H locs hP hD hS => ?_)
  refine lv_aload_n hx hb dX11_meets_92 rfl (lv_at hl 0 rfl) ?_
  refine lv_dup hx hb dX11_meets_93 rfl ?_
  refine va_get (D := (dC, dI)) (ci := 11) (v := .int (z.1 31 0)) (C := RX11) (T := TX11) (N := 41) hx hb hts iw_X11_meets_X11 hown hK.1 hP 0 rfl rfl 31 (by decide) fl246 (fun _ h9 => h9) rfl dX11_meets_94 ?_
  refine lv_iconst (v := 1) hx hb dX11_meets_97 (by decide) ?_
  refine lv_iadd hx hb dX11_meets_98 ?_
  refine va_put (D := (dC, dI)) (ci := 11) (v := .int ((z.1 31 0) + 1)) (ty := .int) (C := RX11) (T := TX11) (N := 41) hx hb hts iw_X11_meets_X11 tyX11 tyX11_ok nmX11 hown hK.1 hP hD hS 0 rfl rfl 31 (by decide) fl246 (fun _ h9 => h9) rfl (by decide +kernel) rfl rfl (Nat.le_of_ble_eq_true rfl) dX11_meets_99 (fun H locs hP hD hS => ?_)
  exact ql_vret C0 hf hP hD hS dX11_meets_102
set_option maxHeartbeats 4000000 in
set_option maxRecDepth 100000 in
theorem w_X11_meets_0 {p : Program} {l : Launch} {e : Env} {s : State} {m : MethodId} {args : Array Value} {below : List Frame} {meth : Method} {c : Code} {dC : Nat → ClassId} {dI : Nat → Nat → Nat} {A : Nat → Prop} {h : Nat} {ad : Nat → Nat} {cI cZ cJ : ClassId} {res : ql_Z} (C0 : ql_C p s m args meth c cX11_meets 6 none wsX11_meets RX11 (dC, dI) [(cI, .int), (cZ, .boolean), (cJ, .long)] A) (N : Nat) : ∀ (z : ql_Z) (x1 : Int32) (x2 : Int32) (x3 : Int32) (x4 : Int32), f_X11_meets_0 N z x1 x2 x3 x4 = some res → ∀ (H : Heap) (locs : List Loc) (ls : Array Slot), va_P (dC, dI) vwCl ((ql_mw h ad cI cZ cJ) z) H → va_D A ((ql_mw h ad cI cZ cJ) z) → va_S A s.heap H locs → lv_has ls 6 [(0, .ref h), (1, .int x1), (2, .int x2), (3, .int x3), (4, .int x4)] → W p l e rm_X11_meets s m args below meth c H locs 0 0 (ql_Qv below (dC, dI) (ql_mw h ad cI cZ cJ) A args s res) (F0 m 0 ls []) := by
  have C0q := C0
  obtain ⟨hx, hb, hr, hml, hown, hts, hlocks, hK, hA⟩ := C0q
  have fl74 := hts (Cond.fieldLink RX11 74 "TestedLoopsModel" "met" "[Z") (by decide +kernel)
  have fl62 := hts (Cond.fieldLink RX11 62 "TestedLoopsModel" "queue" "[I") (by decide +kernel)
  have fl246 := hts (Cond.fieldLink RX11 246 "TestedLoopsModel" "queued" "I") (by decide +kernel)
  have fl65 := hts (Cond.fieldLink RX11 65 "TestedLoopsModel" "parent" "[I") (by decide +kernel)
  have fl68 := hts (Cond.fieldLink RX11 68 "TestedLoopsModel" "digit" "[I") (by decide +kernel)
  have fl71 := hts (Cond.fieldLink RX11 71 "TestedLoopsModel" "level" "[I") (by decide +kernel)
  intro z x1 x2 x3 x4 hf H locs ls hP hD hS hl
  unfold f_X11_meets_0 at hf
  refine lv_bipush (v := 18) hx hb dX11_meets_0 (by decide) ?_
  refine lv_iload_n hx hb dX11_meets_2 rfl (lv_at hl 1 rfl) ?_
  refine lv_iconst (v := 1) hx hb dX11_meets_3 (by decide) ?_
  refine lv_iadd hx hb dX11_meets_4 ?_
  refine lv_imul hx hb dX11_meets_5 ?_
  refine lv_iload_n hx hb dX11_meets_6 rfl (lv_at hl 2 rfl) ?_
  refine lv_iadd hx hb dX11_meets_7 ?_
  refine lv_iconst (v := 1) hx hb dX11_meets_8 (by decide) ?_
  refine lv_iadd hx hb dX11_meets_9 ?_
  refine lv_istore (lv' := [(5, .int (((18 * (x1 + 1)) + x2) + 1)), (0, .ref h), (1, .int x1), (2, .int x2), (3, .int x3), (4, .int x4)]) hx hb dX11_meets_10 hl (by decide) rfl (fun ls hl => ?_)
  refine lv_iload hx hb dX11_meets_12 (lv_at hl 0 rfl) ?_
  refine lv_if_le (tgt := 102) hx hb dX11_meets_14 (by decide) (fun c1 => ?_) (fun c1 => ?_)
  · have hf := (if_pos c1).symm.trans hf
    exact ql_vret C0 hf hP hD hS dX11_meets_102
  · have hf := (if_neg c1).symm.trans hf
    refine lv_aload_n hx hb dX11_meets_17 rfl (lv_at hl 1 rfl) ?_
    refine va_get (D := (dC, dI)) (ci := 11) (v := .ref (ad 30)) (C := RX11) (T := TX11) (N := 41) hx hb hts iw_X11_meets_X11 hown hK.1 hP 0 rfl rfl 30 (by decide) fl74 (fun _ h9 => h9) rfl dX11_meets_18 ?_
    refine lv_iload hx hb dX11_meets_21 (lv_at hl 0 rfl) ?_
    have g0 := ql_in (ql_gt hf)
    have hf := ql_gx hf
    refine va_zald (f := (z.1 30)) hx hb hK.1 hP 22 1 rfl rfl g0 dX11_meets_23 ?_
    refine lv_if_ne (tgt := 102) hx hb dX11_meets_24 (by decide) (fun c2 => ?_) (fun c2 => ?_)
    · have hf := (if_neg c2).symm.trans hf
      exact ql_vret C0 hf hP hD hS dX11_meets_102
    · have hf := (if_pos c2).symm.trans hf
      refine lv_aload_n hx hb dX11_meets_27 rfl (lv_at hl 1 rfl) ?_
      refine va_get (D := (dC, dI)) (ci := 11) (v := .ref (ad 30)) (C := RX11) (T := TX11) (N := 41) hx hb hts iw_X11_meets_X11 hown hK.1 hP 0 rfl rfl 30 (by decide) fl74 (fun _ h9 => h9) rfl dX11_meets_28 ?_
      refine lv_iload hx hb dX11_meets_31 (lv_at hl 0 rfl) ?_
      refine lv_iconst (v := 1) hx hb dX11_meets_33 (by decide) ?_
      have g0 := ql_in (ql_gt hf)
      have hf := ql_gx hf
      refine va_zast (f := (z.1 30)) hx hb hK.1 hP hD hS 22 1 rfl rfl g0 dX11_meets_34 (fun H locs hP hD hS => ?_)
      refine lv_aload_n hx hb dX11_meets_35 rfl (lv_at hl 1 rfl) ?_
      refine va_get (D := (dC, dI)) (ci := 11) (v := .ref (ad 26)) (C := RX11) (T := TX11) (N := 41) hx hb hts iw_X11_meets_X11 hown hK.1 hP 0 rfl rfl 26 (by decide) fl62 (fun _ h9 => h9) rfl dX11_meets_36 ?_
      refine lv_aload_n hx hb dX11_meets_39 rfl (lv_at hl 1 rfl) ?_
      refine va_get (D := (dC, dI)) (ci := 11) (v := .int (z.1 31 0)) (C := RX11) (T := TX11) (N := 41) hx hb hts iw_X11_meets_X11 hown hK.1 hP 0 rfl rfl 31 (by decide) fl246 (fun _ h9 => h9) rfl dX11_meets_40 ?_
      refine lv_iload hx hb dX11_meets_43 (lv_at hl 0 rfl) ?_
      have g0 := ql_in (ql_gt hf)
      have hf := ql_gx hf
      refine va_iast (f := (z.1 26)) hx hb hK.1 hP hD hS 18 0 rfl rfl g0 dX11_meets_45 (fun H locs hP hD hS => ?_)
      refine lv_aload_n hx hb dX11_meets_46 rfl (lv_at hl 1 rfl) ?_
      refine va_get (D := (dC, dI)) (ci := 11) (v := .ref (ad 27)) (C := RX11) (T := TX11) (N := 41) hx hb hts iw_X11_meets_X11 hown hK.1 hP 0 rfl rfl 27 (by decide) fl65 (fun _ h9 => h9) rfl dX11_meets_47 ?_
      refine lv_aload_n hx hb dX11_meets_50 rfl (lv_at hl 1 rfl) ?_
      refine va_get (D := (dC, dI)) (ci := 11) (v := .int (z.1 31 0)) (C := RX11) (T := TX11) (N := 41) hx hb hts iw_X11_meets_X11 hown hK.1 hP 0 rfl rfl 31 (by decide) fl246 (fun _ h9 => h9) rfl dX11_meets_51 ?_
      refine lv_iload_n hx hb dX11_meets_54 rfl (lv_at hl 4 rfl) ?_
      have g0 := ql_in (ql_gt hf)
      have hf := ql_gx hf
      refine va_iast (f := (z.1 27)) hx hb hK.1 hP hD hS 19 0 rfl rfl g0 dX11_meets_55 (fun H locs hP hD hS => ?_)
      refine lv_aload_n hx hb dX11_meets_56 rfl (lv_at hl 1 rfl) ?_
      refine va_get (D := (dC, dI)) (ci := 11) (v := .ref (ad 28)) (C := RX11) (T := TX11) (N := 41) hx hb hts iw_X11_meets_X11 hown hK.1 hP 0 rfl rfl 28 (by decide) fl68 (fun _ h9 => h9) rfl dX11_meets_57 ?_
      refine lv_aload_n hx hb dX11_meets_60 rfl (lv_at hl 1 rfl) ?_
      refine va_get (D := (dC, dI)) (ci := 11) (v := .int (z.1 31 0)) (C := RX11) (T := TX11) (N := 41) hx hb hts iw_X11_meets_X11 hown hK.1 hP 0 rfl rfl 31 (by decide) fl246 (fun _ h9 => h9) rfl dX11_meets_61 ?_
      refine lv_iload hx hb dX11_meets_64 (lv_at hl 5 rfl) ?_
      have g0 := ql_in (ql_gt hf)
      have hf := ql_gx hf
      refine va_iast (f := (z.1 28)) hx hb hK.1 hP hD hS 20 0 rfl rfl g0 dX11_meets_66 (fun H locs hP hD hS => ?_)
      refine lv_aload_n hx hb dX11_meets_67 rfl (lv_at hl 1 rfl) ?_
      refine va_get (D := (dC, dI)) (ci := 11) (v := .ref (ad 29)) (C := RX11) (T := TX11) (N := 41) hx hb hts iw_X11_meets_X11 hown hK.1 hP 0 rfl rfl 29 (by decide) fl71 (fun _ h9 => h9) rfl dX11_meets_68 ?_
      refine lv_aload_n hx hb dX11_meets_71 rfl (lv_at hl 1 rfl) ?_
      refine va_get (D := (dC, dI)) (ci := 11) (v := .int (z.1 31 0)) (C := RX11) (T := TX11) (N := 41) hx hb hts iw_X11_meets_X11 hown hK.1 hP 0 rfl rfl 31 (by decide) fl246 (fun _ h9 => h9) rfl dX11_meets_72 ?_
      refine lv_iload_n hx hb dX11_meets_75 rfl (lv_at hl 4 rfl) ?_
      refine lv_if_ge (tgt := 83) hx hb dX11_meets_76 (by decide) (fun c3 => ?_) (fun c3 => ?_)
      · have hf := (if_pos c3).symm.trans hf
        refine lv_aload_n hx hb dX11_meets_83 rfl (lv_at hl 1 rfl) ?_
        refine va_get (D := (dC, dI)) (ci := 11) (v := .ref (ad 29)) (C := RX11) (T := TX11) (N := 41) hx hb hts iw_X11_meets_X11 hown hK.1 hP 0 rfl rfl 29 (by decide) fl71 (fun _ h9 => h9) rfl dX11_meets_84 ?_
        refine lv_iload_n hx hb dX11_meets_87 rfl (lv_at hl 4 rfl) ?_
        have g0 := ql_in (ql_gt hf)
        have hf := ql_gx hf
        refine va_iald (f := (z.1 29)) hx hb hK.1 hP 21 0 rfl rfl g0 dX11_meets_88 ?_
        refine lv_iconst (v := 1) hx hb dX11_meets_89 (by decide) ?_
        refine lv_iadd hx hb dX11_meets_90 ?_
        exact w_X11_meets_91 C0 N _ _ _ hf _ _ _ hP hD hS (lv_sub hl [1] rfl)
      · have hf := (if_neg c3).symm.trans hf
        refine lv_iconst (v := 0) hx hb dX11_meets_79 (by decide) ?_
        refine lv_goto (tgt := 91) hx hb dX11_meets_80 (by decide) ?_
        exact w_X11_meets_91 C0 N _ _ _ hf _ _ _ hP hD hS (lv_sub hl [1] rfl)
set_option maxRecDepth 100000 in
theorem c_X11_meets (l : Launch) (dC : Nat → ClassId) (dI : Nat → Nat → Nat) (h : Nat) (ad : Nat → Nat) (cI cZ cJ : ClassId) (N : Nat) (z : ql_Z) (x1 : Int32) (x2 : Int32) (x3 : Int32) (x4 : Int32) (res : ql_Z) (hf : f_X11_meets N z x1 x2 x3 x4 = some res) : ql_Mv l yX11_meets wsX11_meets rm_X11_meets (dC, dI) [(cI, .int), (cZ, .boolean), (cJ, .long)] (ql_mw h ad cI cZ cJ) [.ref h, .int x1, .int x2, .int x3, .int x4] z res :=
  ql_start_v (by decide) rfl (Nat.le_of_ble_eq_true rfl) (fun p e s m below meth c A ls C0 hl hP hD hS => w_X11_meets_0 C0 N z x1 x2 x3 x4 hf s.heap [] ls hP hD hS (lv_sub (show lv_has ls 6 [(0, .ref h), (1, .int x1), (2, .int x2), (3, .int x3), (4, .int x4)] from hl) [0, 1, 2, 3, 4] rfl))
/-! ===== TestedLoopsModel.parts(IIZ)I ===== -/
abbrev rm_X11_parts : Room := { frames := 1, cells := 0, slots := 0, locals := 25 }
theorem iw_X11_parts_X11 : ∀ w ∈ wsX110, w ∈ wsX11_parts := fun w h => List.mem_cons_of_mem _ (List.mem_append_right _ h)
theorem qv_X11_parts : yX11_parts.cls = RX11 ∧ yX11_parts.cls ≠ "java/lang/invoke/MethodHandle" ∧ yX11_parts.cls ≠ "java/lang/invoke/VarHandle" ∧ (parseMethodDescriptor yX11_parts.desc).map (fun d => d.parameters.length) = some 3 := by decide +kernel
def f_X11_parts_268 (N : Nat) (k71 : ql_Z → Int32 → Int32 → Int32 → Int32 → Option (Int32 × ql_Z)) (k138 : ql_Z → Int32 → Int32 → Int32 → Int32 → Int32 → Int32 → Int32 → Option (Int32 × ql_Z)) (z : ql_Z) (x1 : Int32) (x2 : Int32) (x3 : Int32) (x4 : Int32) (x5 : Int32) (x6 : Int32) (x7 : Int32) : Option (Int32 × ql_Z) := k138 z x1 x2 x3 x4 x5 x6 (x7 + 1)
def f_X11_parts_248 (N : Nat) (k71 : ql_Z → Int32 → Int32 → Int32 → Int32 → Option (Int32 × ql_Z)) (k138 : ql_Z → Int32 → Int32 → Int32 → Int32 → Int32 → Int32 → Int32 → Option (Int32 × ql_Z)) (k195 : ql_Z → Int32 → Int32 → Int32 → Int32 → Int32 → Int32 → Int32 → Int32 → Int32 → Int32 → Option (Int32 × ql_Z)) (z : ql_Z) (x1 : Int32) (x2 : Int32) (x3 : Int32) (x4 : Int32) (x5 : Int32) (x6 : Int32) (x7 : Int32) (x8 : Int32) (x9 : Int32) (x10 : Int32) (y0 : Int32) (y1 : Int32) : Option (Int32 × ql_Z) := (f_X11_meets N z y1 y0 x4 (((4 * x7) - 4) + x10)).bind fun u1 => k195 u1 x1 x2 x3 x4 x5 x6 x7 x8 x9 (x10 + 1)
def f_X11_parts_230 (N : Nat) (k71 : ql_Z → Int32 → Int32 → Int32 → Int32 → Option (Int32 × ql_Z)) (k138 : ql_Z → Int32 → Int32 → Int32 → Int32 → Int32 → Int32 → Int32 → Option (Int32 × ql_Z)) (k195 : ql_Z → Int32 → Int32 → Int32 → Int32 → Int32 → Int32 → Int32 → Int32 → Int32 → Int32 → Option (Int32 × ql_Z)) (z : ql_Z) (x1 : Int32) (x2 : Int32) (x3 : Int32) (x4 : Int32) (x5 : Int32) (x6 : Int32) (x7 : Int32) (x8 : Int32) (x9 : Int32) (x10 : Int32) (y0 : Int32) : Option (Int32 × ql_Z) := if x9 = 0 then f_X11_parts_248 N k71 k138 k195 z x1 x2 x3 x4 x5 x6 x7 x8 x9 x10 (-1) y0 else (f_X11_to N z x2 x6 x10).bind fun u3 => f_X11_parts_248 N k71 k138 k195 z x1 x2 x3 x4 x5 x6 x7 x8 x9 x10 u3 y0
def f_X11_parts_211 (N : Nat) (k71 : ql_Z → Int32 → Int32 → Int32 → Int32 → Option (Int32 × ql_Z)) (k138 : ql_Z → Int32 → Int32 → Int32 → Int32 → Int32 → Int32 → Int32 → Option (Int32 × ql_Z)) (k195 : ql_Z → Int32 → Int32 → Int32 → Int32 → Int32 → Int32 → Int32 → Int32 → Int32 → Int32 → Option (Int32 × ql_Z)) (z : ql_Z) (x1 : Int32) (x2 : Int32) (x3 : Int32) (x4 : Int32) (x5 : Int32) (x6 : Int32) (x7 : Int32) (x8 : Int32) (x9 : Int32) (x10 : Int32) : Option (Int32 × ql_Z) := if x8 = 0 then f_X11_parts_230 N k71 k138 k195 z x1 x2 x3 x4 x5 x6 x7 x8 x9 x10 (-1) else (f_X11_to N z x1 x5 x10).bind fun u5 => f_X11_parts_230 N k71 k138 k195 z x1 x2 x3 x4 x5 x6 x7 x8 x9 x10 u5
def f_X11_parts_195 (N : Nat) (k71 : ql_Z → Int32 → Int32 → Int32 → Int32 → Option (Int32 × ql_Z)) (k138 : ql_Z → Int32 → Int32 → Int32 → Int32 → Int32 → Int32 → Int32 → Option (Int32 × ql_Z)) : Nat → ql_Z → Int32 → Int32 → Int32 → Int32 → Int32 → Int32 → Int32 → Int32 → Int32 → Int32 → Option (Int32 × ql_Z)
  | 0, _, _, _, _, _, _, _, _, _, _, _ => none
  | n + 1, z, x1, x2, x3, x4, x5, x6, x7, x8, x9, x10 => if 4 ≤ x10 then f_X11_parts_268 N k71 k138 z x1 x2 x3 x4 x5 x6 x7 else if x8 = 0 then if x9 = 0 then f_X11_parts_268 N k71 k138 z x1 x2 x3 x4 x5 x6 x7 else f_X11_parts_211 N k71 k138 (f_X11_parts_195 N k71 k138 n) z x1 x2 x3 x4 x5 x6 x7 x8 x9 x10 else f_X11_parts_211 N k71 k138 (f_X11_parts_195 N k71 k138 n) z x1 x2 x3 x4 x5 x6 x7 x8 x9 x10
def f_X11_parts_190 (N : Nat) (k71 : ql_Z → Int32 → Int32 → Int32 → Int32 → Option (Int32 × ql_Z)) (k138 : ql_Z → Int32 → Int32 → Int32 → Int32 → Int32 → Int32 → Int32 → Option (Int32 × ql_Z)) (z : ql_Z) (x1 : Int32) (x2 : Int32) (x3 : Int32) (x4 : Int32) (x5 : Int32) (x6 : Int32) (x7 : Int32) (x8 : Int32) (y0 : Int32) : Option (Int32 × ql_Z) := f_X11_parts_195 N k71 k138 N z x1 x2 x3 x4 x5 x6 x7 x8 y0 0
def f_X11_parts_189 (N : Nat) (k71 : ql_Z → Int32 → Int32 → Int32 → Int32 → Option (Int32 × ql_Z)) (k138 : ql_Z → Int32 → Int32 → Int32 → Int32 → Int32 → Int32 → Int32 → Option (Int32 × ql_Z)) (z : ql_Z) (x1 : Int32) (x2 : Int32) (x3 : Int32) (x4 : Int32) (x5 : Int32) (x6 : Int32) (x7 : Int32) (x8 : Int32) : Option (Int32 × ql_Z) := f_X11_parts_190 N k71 k138 z x1 x2 x3 x4 x5 x6 x7 x8 0
def f_X11_parts_166 (N : Nat) (k71 : ql_Z → Int32 → Int32 → Int32 → Int32 → Option (Int32 × ql_Z)) (k138 : ql_Z → Int32 → Int32 → Int32 → Int32 → Int32 → Int32 → Int32 → Option (Int32 × ql_Z)) (z : ql_Z) (x1 : Int32) (x2 : Int32) (x3 : Int32) (x4 : Int32) (x5 : Int32) (x6 : Int32) (x7 : Int32) (y0 : Int32) : Option (Int32 × ql_Z) := if x6 ≤ 0 then f_X11_parts_189 N k71 k138 z x1 x2 x3 x4 x5 x6 x7 y0 else (f_X11_actOf N z x2 x6).bind fun u10 => if u10 = x7 then f_X11_parts_190 N k71 k138 z x1 x2 x3 x4 x5 x6 x7 y0 1 else f_X11_parts_189 N k71 k138 z x1 x2 x3 x4 x5 x6 x7 y0
def f_X11_parts_165 (N : Nat) (k71 : ql_Z → Int32 → Int32 → Int32 → Int32 → Option (Int32 × ql_Z)) (k138 : ql_Z → Int32 → Int32 → Int32 → Int32 → Int32 → Int32 → Int32 → Option (Int32 × ql_Z)) (z : ql_Z) (x1 : Int32) (x2 : Int32) (x3 : Int32) (x4 : Int32) (x5 : Int32) (x6 : Int32) (x7 : Int32) : Option (Int32 × ql_Z) := f_X11_parts_166 N k71 k138 z x1 x2 x3 x4 x5 x6 x7 0
def f_X11_parts_138 (N : Nat) (k71 : ql_Z → Int32 → Int32 → Int32 → Int32 → Option (Int32 × ql_Z)) : Nat → ql_Z → Int32 → Int32 → Int32 → Int32 → Int32 → Int32 → Int32 → Option (Int32 × ql_Z)
  | 0, _, _, _, _, _, _, _, _ => none
  | n + 1, z, x1, x2, x3, x4, x5, x6, x7 => if 4 ≤ x7 then k71 z x1 x2 x3 (x4 + 1) else if x5 ≤ 0 then f_X11_parts_165 N k71 (f_X11_parts_138 N k71 n) z x1 x2 x3 x4 x5 x6 x7 else (f_X11_actOf N z x1 x5).bind fun u14 => if u14 = x7 then f_X11_parts_166 N k71 (f_X11_parts_138 N k71 n) z x1 x2 x3 x4 x5 x6 x7 1 else f_X11_parts_165 N k71 (f_X11_parts_138 N k71 n) z x1 x2 x3 x4 x5 x6 x7
def f_X11_parts_135 (N : Nat) (k71 : ql_Z → Int32 → Int32 → Int32 → Int32 → Option (Int32 × ql_Z)) (z : ql_Z) (x1 : Int32) (x2 : Int32) (x3 : Int32) (x4 : Int32) (x5 : Int32) (x6 : Int32) : Option (Int32 × ql_Z) := f_X11_parts_138 N k71 N z x1 x2 x3 x4 x5 x6 1
def f_X11_parts_132 (N : Nat) (z : ql_Z) (x4 : Int32) : Option (Int32 × ql_Z) := some (x4, z)
def f_X11_parts_118 (N : Nat) (k71 : ql_Z → Int32 → Int32 → Int32 → Int32 → Option (Int32 × ql_Z)) (z : ql_Z) (x1 : Int32) (x2 : Int32) (x3 : Int32) (x4 : Int32) (x5 : Int32) (x6 : Int32) : Option (Int32 × ql_Z) := if x3 = 0 then if x6 = 0 then if x5 = 0 then f_X11_parts_135 N k71 z x1 x2 x3 x4 x5 x6 else f_X11_parts_132 N z x4 else f_X11_parts_135 N k71 z x1 x2 x3 x4 x5 x6 else f_X11_parts_135 N k71 z x1 x2 x3 x4 x5 x6
def f_X11_parts_71 (N : Nat) : Nat → ql_Z → Int32 → Int32 → Int32 → Int32 → Option (Int32 × ql_Z)
  | 0, _, _, _, _, _ => none
  | n + 1, z, x1, x2, x3, x4 => if (z.1 31 0) ≤ x4 then some ((-1), z) else if ql_ib x4 324 = true then if ql_ib x4 324 = true then if ((((z.1 26) x4.toNatClampNeg) / 18) - 1) = 0 then if ((((z.1 26) x4.toNatClampNeg) - ((z.1 26) x4.toNatClampNeg) / 18 * 18) - 1) = 0 then f_X11_parts_118 N (f_X11_parts_71 N n) z x1 x2 x3 x4 ((((z.1 26) x4.toNatClampNeg) / 18) - 1) ((((z.1 26) x4.toNatClampNeg) - ((z.1 26) x4.toNatClampNeg) / 18 * 18) - 1) else f_X11_parts_132 N z x4 else f_X11_parts_118 N (f_X11_parts_71 N n) z x1 x2 x3 x4 ((((z.1 26) x4.toNatClampNeg) / 18) - 1) ((((z.1 26) x4.toNatClampNeg) - ((z.1 26) x4.toNatClampNeg) / 18 * 18) - 1) else none else none
def f_X11_parts_33 (N : Nat) : Nat → ql_Z → Int32 → Int32 → Int32 → Int32 → Option (Int32 × ql_Z)
  | 0, _, _, _, _, _ => none
  | n + 1, z, x1, x2, x3, x4 => if 4 ≤ x4 then f_X11_parts_71 N N z x1 x2 x3 0 else (f_X11_to N z x1 0 x4).bind fun u23 => (f_X11_to N z x2 0 x4).bind fun u24 => (f_X11_meets N z u23 u24 (-1) x4).bind fun u25 => f_X11_parts_33 N n u25 x1 x2 x3 (x4 + 1)
def f_X11_parts_3 (N : Nat) : Nat → ql_Z → Int32 → Int32 → Int32 → Int32 → Option (Int32 × ql_Z)
  | 0, _, _, _, _, _ => none
  | n + 1, z, x1, x2, x3, x4 => if 324 ≤ x4 then f_X11_parts_33 N N ((ql_up z.1 31 (fun _ => 0)), z.2) x1 x2 x3 0 else if ql_ib x4 324 = true then f_X11_parts_3 N n ((ql_up z.1 30 (upd (z.1 30) x4.toNatClampNeg (vp_nar .boolean 0))), z.2) x1 x2 x3 (x4 + 1) else none
def f_X11_parts_0 (N : Nat) (z : ql_Z) (x1 : Int32) (x2 : Int32) (x3 : Int32) : Option (Int32 × ql_Z) := f_X11_parts_3 N N z x1 x2 x3 0
def f_X11_parts (N : Nat) (z : ql_Z) (x1 : Int32) (x2 : Int32) (x3 : Int32) : Option (Int32 × ql_Z) := f_X11_parts_0 N z x1 x2 x3
set_option maxHeartbeats 4000000 in
set_option maxRecDepth 100000 in
theorem w_X11_parts_268 {p : Program} {l : Launch} {e : Env} {s : State} {m : MethodId} {args : Array Value} {below : List Frame} {meth : Method} {c : Code} {dC : Nat → ClassId} {dI : Nat → Nat → Nat} {A : Nat → Prop} {h : Nat} {ad : Nat → Nat} {cI cZ cJ : ClassId} {res : Int32 × ql_Z} (C0 : ql_C p s m args meth c cX11_parts 11 (some .int) wsX11_parts RX11 (dC, dI) [(cI, .int), (cZ, .boolean), (cJ, .long)] A) (N : Nat) (k71 : ql_Z → Int32 → Int32 → Int32 → Int32 → Option (Int32 × ql_Z)) (hk71 : ∀ (z : ql_Z) (x1 : Int32) (x2 : Int32) (x3 : Int32) (x4 : Int32), k71 z x1 x2 x3 x4 = some res → ∀ (H : Heap) (locs : List Loc) (ls : Array Slot), va_P (dC, dI) vwCl ((ql_mw h ad cI cZ cJ) z) H → va_D A ((ql_mw h ad cI cZ cJ) z) → va_S A s.heap H locs → lv_has ls 11 [(0, .ref h), (1, .int x1), (2, .int x2), (3, .int x3), (4, .int x4)] → W p l e rm_X11_parts s m args below meth c H locs 0 0 (ql_Qi below (dC, dI) (ql_mw h ad cI cZ cJ) A args s res) (F0 m 71 ls [])) (k138 : ql_Z → Int32 → Int32 → Int32 → Int32 → Int32 → Int32 → Int32 → Option (Int32 × ql_Z)) (hk138 : ∀ (z : ql_Z) (x1 : Int32) (x2 : Int32) (x3 : Int32) (x4 : Int32) (x5 : Int32) (x6 : Int32) (x7 : Int32), k138 z x1 x2 x3 x4 x5 x6 x7 = some res → ∀ (H : Heap) (locs : List Loc) (ls : Array Slot), va_P (dC, dI) vwCl ((ql_mw h ad cI cZ cJ) z) H → va_D A ((ql_mw h ad cI cZ cJ) z) → va_S A s.heap H locs → lv_has ls 11 [(0, .ref h), (1, .int x1), (2, .int x2), (3, .int x3), (4, .int x4), (5, .int x5), (6, .int x6), (7, .int x7)] → W p l e rm_X11_parts s m args below meth c H locs 0 0 (ql_Qi below (dC, dI) (ql_mw h ad cI cZ cJ) A args s res) (F0 m 138 ls [])) : ∀ (z : ql_Z) (x1 : Int32) (x2 : Int32) (x3 : Int32) (x4 : Int32) (x5 : Int32) (x6 : Int32) (x7 : Int32), f_X11_parts_268 N k71 k138 z x1 x2 x3 x4 x5 x6 x7 = some res → ∀ (H : Heap) (locs : List Loc) (ls : Array Slot), va_P (dC, dI) vwCl ((ql_mw h ad cI cZ cJ) z) H → va_D A ((ql_mw h ad cI cZ cJ) z) → va_S A s.heap H locs → lv_has ls 11 [(0, .ref h), (1, .int x1), (2, .int x2), (3, .int x3), (4, .int x4), (5, .int x5), (6, .int x6), (7, .int x7)] → W p l e rm_X11_parts s m args below meth c H locs 0 0 (ql_Qi below (dC, dI) (ql_mw h ad cI cZ cJ) A args s res) (F0 m 268 ls []) := by
  have C0q := C0
  obtain ⟨hx, hb, hr, hml, hown, hts, hlocks, hK, hA⟩ := C0q
  intro z x1 x2 x3 x4 x5 x6 x7 hf H locs ls hP hD hS hl
  unfold f_X11_parts_268 at hf
  refine lv_iinc (v := (x7 + 1)) (lv' := [(7, .int (x7 + 1)), (0, .ref h), (1, .int x1), (2, .int x2), (3, .int x3), (4, .int x4), (5, .int x5), (6, .int x6)]) hx hb dX11_parts_268 hl (k := 7) rfl rfl (by decide) rfl (fun ls hl => ?_)
  refine lv_goto (tgt := 138) hx hb dX11_parts_271 (by decide) ?_
  exact hk138 _ _ _ _ _ _ _ _ hf _ _ _ hP hD hS (lv_sub hl [1, 2, 3, 4, 5, 6, 7, 0] rfl)
set_option maxHeartbeats 4000000 in
set_option maxRecDepth 100000 in
theorem w_X11_parts_248 {p : Program} {l : Launch} {e : Env} {s : State} {m : MethodId} {args : Array Value} {below : List Frame} {meth : Method} {c : Code} {dC : Nat → ClassId} {dI : Nat → Nat → Nat} {A : Nat → Prop} {h : Nat} {ad : Nat → Nat} {cI cZ cJ : ClassId} {res : Int32 × ql_Z} (C0 : ql_C p s m args meth c cX11_parts 11 (some .int) wsX11_parts RX11 (dC, dI) [(cI, .int), (cZ, .boolean), (cJ, .long)] A) (N : Nat) (k71 : ql_Z → Int32 → Int32 → Int32 → Int32 → Option (Int32 × ql_Z)) (hk71 : ∀ (z : ql_Z) (x1 : Int32) (x2 : Int32) (x3 : Int32) (x4 : Int32), k71 z x1 x2 x3 x4 = some res → ∀ (H : Heap) (locs : List Loc) (ls : Array Slot), va_P (dC, dI) vwCl ((ql_mw h ad cI cZ cJ) z) H → va_D A ((ql_mw h ad cI cZ cJ) z) → va_S A s.heap H locs → lv_has ls 11 [(0, .ref h), (1, .int x1), (2, .int x2), (3, .int x3), (4, .int x4)] → W p l e rm_X11_parts s m args below meth c H locs 0 0 (ql_Qi below (dC, dI) (ql_mw h ad cI cZ cJ) A args s res) (F0 m 71 ls [])) (k138 : ql_Z → Int32 → Int32 → Int32 → Int32 → Int32 → Int32 → Int32 → Option (Int32 × ql_Z)) (hk138 : ∀ (z : ql_Z) (x1 : Int32) (x2 : Int32) (x3 : Int32) (x4 : Int32) (x5 : Int32) (x6 : Int32) (x7 : Int32), k138 z x1 x2 x3 x4 x5 x6 x7 = some res → ∀ (H : Heap) (locs : List Loc) (ls : Array Slot), va_P (dC, dI) vwCl ((ql_mw h ad cI cZ cJ) z) H → va_D A ((ql_mw h ad cI cZ cJ) z) → va_S A s.heap H locs → lv_has ls 11 [(0, .ref h), (1, .int x1), (2, .int x2), (3, .int x3), (4, .int x4), (5, .int x5), (6, .int x6), (7, .int x7)] → W p l e rm_X11_parts s m args below meth c H locs 0 0 (ql_Qi below (dC, dI) (ql_mw h ad cI cZ cJ) A args s res) (F0 m 138 ls [])) (k195 : ql_Z → Int32 → Int32 → Int32 → Int32 → Int32 → Int32 → Int32 → Int32 → Int32 → Int32 → Option (Int32 × ql_Z)) (hk195 : ∀ (z : ql_Z) (x1 : Int32) (x2 : Int32) (x3 : Int32) (x4 : Int32) (x5 : Int32) (x6 : Int32) (x7 : Int32) (x8 : Int32) (x9 : Int32) (x10 : Int32), k195 z x1 x2 x3 x4 x5 x6 x7 x8 x9 x10 = some res → ∀ (H : Heap) (locs : List Loc) (ls : Array Slot), va_P (dC, dI) vwCl ((ql_mw h ad cI cZ cJ) z) H → va_D A ((ql_mw h ad cI cZ cJ) z) → va_S A s.heap H locs → lv_has ls 11 [(0, .ref h), (1, .int x1), (2, .int x2), (3, .int x3), (4, .int x4), (5, .int x5), (6, .int x6), (7, .int x7), (8, .int x8), (9, .int x9), (10, .int x10)] → W p l e rm_X11_parts s m args below meth c H locs 0 0 (ql_Qi below (dC, dI) (ql_mw h ad cI cZ cJ) A args s res) (F0 m 195 ls [])) : ∀ (z : ql_Z) (x1 : Int32) (x2 : Int32) (x3 : Int32) (x4 : Int32) (x5 : Int32) (x6 : Int32) (x7 : Int32) (x8 : Int32) (x9 : Int32) (x10 : Int32) (y0 : Int32) (y1 : Int32), f_X11_parts_248 N k71 k138 k195 z x1 x2 x3 x4 x5 x6 x7 x8 x9 x10 y0 y1 = some res → ∀ (H : Heap) (locs : List Loc) (ls : Array Slot), va_P (dC, dI) vwCl ((ql_mw h ad cI cZ cJ) z) H → va_D A ((ql_mw h ad cI cZ cJ) z) → va_S A s.heap H locs → lv_has ls 11 [(0, .ref h), (1, .int x1), (2, .int x2), (3, .int x3), (4, .int x4), (5, .int x5), (6, .int x6), (7, .int x7), (8, .int x8), (9, .int x9), (10, .int x10)] → W p l e rm_X11_parts s m args below meth c H locs 0 0 (ql_Qi below (dC, dI) (ql_mw h ad cI cZ cJ) A args s res) (F0 m 248 ls [.int y0, .int y1, .ref h]) := by
  have C0q := C0
  obtain ⟨hx, hb, hr, hml, hown, hts, hlocks, hK, hA⟩ := C0q
  intro z x1 x2 x3 x4 x5 x6 x7 x8 x9 x10 y0 y1 hf H locs ls hP hD hS hl
  unfold f_X11_parts_248 at hf
  refine lv_iload hx hb dX11_parts_248 (lv_at hl 4 rfl) ?_
  refine lv_iconst (v := 4) hx hb dX11_parts_250 (by decide) ?_
  refine lv_iload hx hb dX11_parts_251 (lv_at hl 7 rfl) ?_
  refine lv_imul hx hb dX11_parts_253 ?_
  refine lv_iconst (v := 4) hx hb dX11_parts_254 (by decide) ?_
  refine lv_isub hx hb dX11_parts_255 ?_
  refine lv_iload hx hb dX11_parts_256 (lv_at hl 10 rfl) ?_
  refine lv_iadd hx hb dX11_parts_258 ?_
  obtain ⟨u1, hu1, hf⟩ := ql_bd hf
  refine ql_callVv (As := [.int y1, .int y0, .int x4, .int (((4 * x7) - 4) + x10)]) (rest := []) C0 (c_X11_meets l dC dI h ad cI cZ cJ N z y1 y0 x4 (((4 * x7) - 4) + x10) u1 hu1) (cwV 4 hts gX11_parts_X11_meets rfl rfl rfl qv_X11_meets ⟨Nat.le_of_ble_eq_true rfl, Nat.le_of_ble_eq_true rfl⟩) (va_recv hK.1 hP (ci := 11) (q0 := 0) rfl rfl) hP hD hS hl.1 rfl rfl (Nat.le_of_ble_eq_true rfl) dX11_parts_259 (fun H locs hP hD hS => ?_)
  refine lv_iinc (v := (x10 + 1)) (lv' := [(10, .int (x10 + 1)), (0, .ref h), (1, .int x1), (2, .int x2), (3, .int x3), (4, .int x4), (5, .int x5), (6, .int x6), (7, .int x7), (8, .int x8), (9, .int x9)]) hx hb dX11_parts_262 hl (k := 10) rfl rfl (by decide) rfl (fun ls hl => ?_)
  refine lv_goto (tgt := 195) hx hb dX11_parts_265 (by decide) ?_
  exact hk195 _ _ _ _ _ _ _ _ _ _ _ hf _ _ _ hP hD hS (lv_sub hl [1, 2, 3, 4, 5, 6, 7, 8, 9, 10, 0] rfl)
set_option maxHeartbeats 4000000 in
set_option maxRecDepth 100000 in
theorem w_X11_parts_230 {p : Program} {l : Launch} {e : Env} {s : State} {m : MethodId} {args : Array Value} {below : List Frame} {meth : Method} {c : Code} {dC : Nat → ClassId} {dI : Nat → Nat → Nat} {A : Nat → Prop} {h : Nat} {ad : Nat → Nat} {cI cZ cJ : ClassId} {res : Int32 × ql_Z} (C0 : ql_C p s m args meth c cX11_parts 11 (some .int) wsX11_parts RX11 (dC, dI) [(cI, .int), (cZ, .boolean), (cJ, .long)] A) (N : Nat) (k71 : ql_Z → Int32 → Int32 → Int32 → Int32 → Option (Int32 × ql_Z)) (hk71 : ∀ (z : ql_Z) (x1 : Int32) (x2 : Int32) (x3 : Int32) (x4 : Int32), k71 z x1 x2 x3 x4 = some res → ∀ (H : Heap) (locs : List Loc) (ls : Array Slot), va_P (dC, dI) vwCl ((ql_mw h ad cI cZ cJ) z) H → va_D A ((ql_mw h ad cI cZ cJ) z) → va_S A s.heap H locs → lv_has ls 11 [(0, .ref h), (1, .int x1), (2, .int x2), (3, .int x3), (4, .int x4)] → W p l e rm_X11_parts s m args below meth c H locs 0 0 (ql_Qi below (dC, dI) (ql_mw h ad cI cZ cJ) A args s res) (F0 m 71 ls [])) (k138 : ql_Z → Int32 → Int32 → Int32 → Int32 → Int32 → Int32 → Int32 → Option (Int32 × ql_Z)) (hk138 : ∀ (z : ql_Z) (x1 : Int32) (x2 : Int32) (x3 : Int32) (x4 : Int32) (x5 : Int32) (x6 : Int32) (x7 : Int32), k138 z x1 x2 x3 x4 x5 x6 x7 = some res → ∀ (H : Heap) (locs : List Loc) (ls : Array Slot), va_P (dC, dI) vwCl ((ql_mw h ad cI cZ cJ) z) H → va_D A ((ql_mw h ad cI cZ cJ) z) → va_S A s.heap H locs → lv_has ls 11 [(0, .ref h), (1, .int x1), (2, .int x2), (3, .int x3), (4, .int x4), (5, .int x5), (6, .int x6), (7, .int x7)] → W p l e rm_X11_parts s m args below meth c H locs 0 0 (ql_Qi below (dC, dI) (ql_mw h ad cI cZ cJ) A args s res) (F0 m 138 ls [])) (k195 : ql_Z → Int32 → Int32 → Int32 → Int32 → Int32 → Int32 → Int32 → Int32 → Int32 → Int32 → Option (Int32 × ql_Z)) (hk195 : ∀ (z : ql_Z) (x1 : Int32) (x2 : Int32) (x3 : Int32) (x4 : Int32) (x5 : Int32) (x6 : Int32) (x7 : Int32) (x8 : Int32) (x9 : Int32) (x10 : Int32), k195 z x1 x2 x3 x4 x5 x6 x7 x8 x9 x10 = some res → ∀ (H : Heap) (locs : List Loc) (ls : Array Slot), va_P (dC, dI) vwCl ((ql_mw h ad cI cZ cJ) z) H → va_D A ((ql_mw h ad cI cZ cJ) z) → va_S A s.heap H locs → lv_has ls 11 [(0, .ref h), (1, .int x1), (2, .int x2), (3, .int x3), (4, .int x4), (5, .int x5), (6, .int x6), (7, .int x7), (8, .int x8), (9, .int x9), (10, .int x10)] → W p l e rm_X11_parts s m args below meth c H locs 0 0 (ql_Qi below (dC, dI) (ql_mw h ad cI cZ cJ) A args s res) (F0 m 195 ls [])) : ∀ (z : ql_Z) (x1 : Int32) (x2 : Int32) (x3 : Int32) (x4 : Int32) (x5 : Int32) (x6 : Int32) (x7 : Int32) (x8 : Int32) (x9 : Int32) (x10 : Int32) (y0 : Int32), f_X11_parts_230 N k71 k138 k195 z x1 x2 x3 x4 x5 x6 x7 x8 x9 x10 y0 = some res → ∀ (H : Heap) (locs : List Loc) (ls : Array Slot), va_P (dC, dI) vwCl ((ql_mw h ad cI cZ cJ) z) H → va_D A ((ql_mw h ad cI cZ cJ) z) → va_S A s.heap H locs → lv_has ls 11 [(0, .ref h), (1, .int x1), (2, .int x2), (3, .int x3), (4, .int x4), (5, .int x5), (6, .int x6), (7, .int x7), (8, .int x8), (9, .int x9), (10, .int x10)] → W p l e rm_X11_parts s m args below meth c H locs 0 0 (ql_Qi below (dC, dI) (ql_mw h ad cI cZ cJ) A args s res) (F0 m 230 ls [.int y0, .ref h]) := by
  have C0q := C0
  obtain ⟨hx, hb, hr, hml, hown, hts, hlocks, hK, hA⟩ := C0q
  intro z x1 x2 x3 x4 x5 x6 x7 x8 x9 x10 y0 hf H locs ls hP hD hS hl
  unfold f_X11_parts_230 at hf
  refine lv_iload hx hb dX11_parts_230 (lv_at hl 9 rfl) ?_
  refine lv_if_eq (tgt := 247) hx hb dX11_parts_232 (by decide) (fun c2 => ?_) (fun c2 => ?_)
  · have hf := (if_pos c2).symm.trans hf
    refine lv_iconst (v := (-1)) hx hb dX11_parts_247 (by decide) ?_
    exact w_X11_parts_248 C0 N k71 hk71 k138 hk138 k195 hk195 _ _ _ _ _ _ _ _ _ _ _ _ _ hf _ _ _ hP hD hS (lv_sub hl [0, 1, 2, 3, 4, 5, 6, 7, 8, 9, 10] rfl)
  · have hf := (if_neg c2).symm.trans hf
    refine lv_aload_n hx hb dX11_parts_235 rfl (lv_at hl 0 rfl) ?_
    refine lv_iload_n hx hb dX11_parts_236 rfl (lv_at hl 2 rfl) ?_
    refine lv_iload hx hb dX11_parts_237 (lv_at hl 6 rfl) ?_
    refine lv_iload hx hb dX11_parts_239 (lv_at hl 10 rfl) ?_
    obtain ⟨u3, hu3, hf⟩ := ql_bd hf
    refine ql_callRVi (As := [.int x2, .int x6, .int x10]) (rest := [.int y0, .ref h]) C0 (c_X11_to l dC dI h ad cI cZ cJ N z x2 x6 x10 u3 hu3) (cwV 3 hts gX11_parts_X11_to rfl rfl rfl qv_X11_to ⟨Nat.le_of_ble_eq_true rfl, Nat.le_of_ble_eq_true rfl⟩) (va_recv hK.1 hP (ci := 11) (q0 := 0) rfl rfl) hK hP hS hl.1 rfl rfl (Nat.le_of_ble_eq_true rfl) dX11_parts_241 (fun H1 locs hk hS => ?_)
    have hP := ql_keep hP hk
    refine lv_goto (tgt := 248) hx hb dX11_parts_244 (by decide) ?_
    exact w_X11_parts_248 C0 N k71 hk71 k138 hk138 k195 hk195 _ _ _ _ _ _ _ _ _ _ _ _ _ hf _ _ _ hP hD hS (lv_sub hl [0, 1, 2, 3, 4, 5, 6, 7, 8, 9, 10] rfl)
set_option maxHeartbeats 4000000 in
set_option maxRecDepth 100000 in
theorem w_X11_parts_211 {p : Program} {l : Launch} {e : Env} {s : State} {m : MethodId} {args : Array Value} {below : List Frame} {meth : Method} {c : Code} {dC : Nat → ClassId} {dI : Nat → Nat → Nat} {A : Nat → Prop} {h : Nat} {ad : Nat → Nat} {cI cZ cJ : ClassId} {res : Int32 × ql_Z} (C0 : ql_C p s m args meth c cX11_parts 11 (some .int) wsX11_parts RX11 (dC, dI) [(cI, .int), (cZ, .boolean), (cJ, .long)] A) (N : Nat) (k71 : ql_Z → Int32 → Int32 → Int32 → Int32 → Option (Int32 × ql_Z)) (hk71 : ∀ (z : ql_Z) (x1 : Int32) (x2 : Int32) (x3 : Int32) (x4 : Int32), k71 z x1 x2 x3 x4 = some res → ∀ (H : Heap) (locs : List Loc) (ls : Array Slot), va_P (dC, dI) vwCl ((ql_mw h ad cI cZ cJ) z) H → va_D A ((ql_mw h ad cI cZ cJ) z) → va_S A s.heap H locs → lv_has ls 11 [(0, .ref h), (1, .int x1), (2, .int x2), (3, .int x3), (4, .int x4)] → W p l e rm_X11_parts s m args below meth c H locs 0 0 (ql_Qi below (dC, dI) (ql_mw h ad cI cZ cJ) A args s res) (F0 m 71 ls [])) (k138 : ql_Z → Int32 → Int32 → Int32 → Int32 → Int32 → Int32 → Int32 → Option (Int32 × ql_Z)) (hk138 : ∀ (z : ql_Z) (x1 : Int32) (x2 : Int32) (x3 : Int32) (x4 : Int32) (x5 : Int32) (x6 : Int32) (x7 : Int32), k138 z x1 x2 x3 x4 x5 x6 x7 = some res → ∀ (H : Heap) (locs : List Loc) (ls : Array Slot), va_P (dC, dI) vwCl ((ql_mw h ad cI cZ cJ) z) H → va_D A ((ql_mw h ad cI cZ cJ) z) → va_S A s.heap H locs → lv_has ls 11 [(0, .ref h), (1, .int x1), (2, .int x2), (3, .int x3), (4, .int x4), (5, .int x5), (6, .int x6), (7, .int x7)] → W p l e rm_X11_parts s m args below meth c H locs 0 0 (ql_Qi below (dC, dI) (ql_mw h ad cI cZ cJ) A args s res) (F0 m 138 ls [])) (k195 : ql_Z → Int32 → Int32 → Int32 → Int32 → Int32 → Int32 → Int32 → Int32 → Int32 → Int32 → Option (Int32 × ql_Z)) (hk195 : ∀ (z : ql_Z) (x1 : Int32) (x2 : Int32) (x3 : Int32) (x4 : Int32) (x5 : Int32) (x6 : Int32) (x7 : Int32) (x8 : Int32) (x9 : Int32) (x10 : Int32), k195 z x1 x2 x3 x4 x5 x6 x7 x8 x9 x10 = some res → ∀ (H : Heap) (locs : List Loc) (ls : Array Slot), va_P (dC, dI) vwCl ((ql_mw h ad cI cZ cJ) z) H → va_D A ((ql_mw h ad cI cZ cJ) z) → va_S A s.heap H locs → lv_has ls 11 [(0, .ref h), (1, .int x1), (2, .int x2), (3, .int x3), (4, .int x4), (5, .int x5), (6, .int x6), (7, .int x7), (8, .int x8), (9, .int x9), (10, .int x10)] → W p l e rm_X11_parts s m args below meth c H locs 0 0 (ql_Qi below (dC, dI) (ql_mw h ad cI cZ cJ) A args s res) (F0 m 195 ls [])) : ∀ (z : ql_Z) (x1 : Int32) (x2 : Int32) (x3 : Int32) (x4 : Int32) (x5 : Int32) (x6 : Int32) (x7 : Int32) (x8 : Int32) (x9 : Int32) (x10 : Int32), f_X11_parts_211 N k71 k138 k195 z x1 x2 x3 x4 x5 x6 x7 x8 x9 x10 = some res → ∀ (H : Heap) (locs : List Loc) (ls : Array Slot), va_P (dC, dI) vwCl ((ql_mw h ad cI cZ cJ) z) H → va_D A ((ql_mw h ad cI cZ cJ) z) → va_S A s.heap H locs → lv_has ls 11 [(0, .ref h), (1, .int x1), (2, .int x2), (3, .int x3), (4, .int x4), (5, .int x5), (6, .int x6), (7, .int x7), (8, .int x8), (9, .int x9), (10, .int x10)] → W p l e rm_X11_parts s m args below meth c H locs 0 0 (ql_Qi below (dC, dI) (ql_mw h ad cI cZ cJ) A args s res) (F0 m 211 ls []) := by
  have C0q := C0
  obtain ⟨hx, hb, hr, hml, hown, hts, hlocks, hK, hA⟩ := C0q
  intro z x1 x2 x3 x4 x5 x6 x7 x8 x9 x10 hf H locs ls hP hD hS hl
  unfold f_X11_parts_211 at hf
  refine lv_aload_n hx hb dX11_parts_211 rfl (lv_at hl 0 rfl) ?_
  refine lv_iload hx hb dX11_parts_212 (lv_at hl 8 rfl) ?_
  refine lv_if_eq (tgt := 229) hx hb dX11_parts_214 (by decide) (fun c4 => ?_) (fun c4 => ?_)
  · have hf := (if_pos c4).symm.trans hf
    refine lv_iconst (v := (-1)) hx hb dX11_parts_229 (by decide) ?_
    exact w_X11_parts_230 C0 N k71 hk71 k138 hk138 k195 hk195 _ _ _ _ _ _ _ _ _ _ _ _ hf _ _ _ hP hD hS (lv_sub hl [0, 1, 2, 3, 4, 5, 6, 7, 8, 9, 10] rfl)
  · have hf := (if_neg c4).symm.trans hf
    refine lv_aload_n hx hb dX11_parts_217 rfl (lv_at hl 0 rfl) ?_
    refine lv_iload_n hx hb dX11_parts_218 rfl (lv_at hl 1 rfl) ?_
    refine lv_iload hx hb dX11_parts_219 (lv_at hl 5 rfl) ?_
    refine lv_iload hx hb dX11_parts_221 (lv_at hl 10 rfl) ?_
    obtain ⟨u5, hu5, hf⟩ := ql_bd hf
    refine ql_callRVi (As := [.int x1, .int x5, .int x10]) (rest := [.ref h]) C0 (c_X11_to l dC dI h ad cI cZ cJ N z x1 x5 x10 u5 hu5) (cwV 3 hts gX11_parts_X11_to rfl rfl rfl qv_X11_to ⟨Nat.le_of_ble_eq_true rfl, Nat.le_of_ble_eq_true rfl⟩) (va_recv hK.1 hP (ci := 11) (q0 := 0) rfl rfl) hK hP hS hl.1 rfl rfl (Nat.le_of_ble_eq_true rfl) dX11_parts_223 (fun H1 locs hk hS => ?_)
    have hP := ql_keep hP hk
    refine lv_goto (tgt := 230) hx hb dX11_parts_226 (by decide) ?_
    exact w_X11_parts_230 C0 N k71 hk71 k138 hk138 k195 hk195 _ _ _ _ _ _ _ _ _ _ _ _ hf _ _ _ hP hD hS (lv_sub hl [0, 1, 2, 3, 4, 5, 6, 7, 8, 9, 10] rfl)
set_option maxHeartbeats 4000000 in
set_option maxRecDepth 100000 in
theorem w_X11_parts_195 {p : Program} {l : Launch} {e : Env} {s : State} {m : MethodId} {args : Array Value} {below : List Frame} {meth : Method} {c : Code} {dC : Nat → ClassId} {dI : Nat → Nat → Nat} {A : Nat → Prop} {h : Nat} {ad : Nat → Nat} {cI cZ cJ : ClassId} {res : Int32 × ql_Z} (C0 : ql_C p s m args meth c cX11_parts 11 (some .int) wsX11_parts RX11 (dC, dI) [(cI, .int), (cZ, .boolean), (cJ, .long)] A) (N : Nat) (k71 : ql_Z → Int32 → Int32 → Int32 → Int32 → Option (Int32 × ql_Z)) (hk71 : ∀ (z : ql_Z) (x1 : Int32) (x2 : Int32) (x3 : Int32) (x4 : Int32), k71 z x1 x2 x3 x4 = some res → ∀ (H : Heap) (locs : List Loc) (ls : Array Slot), va_P (dC, dI) vwCl ((ql_mw h ad cI cZ cJ) z) H → va_D A ((ql_mw h ad cI cZ cJ) z) → va_S A s.heap H locs → lv_has ls 11 [(0, .ref h), (1, .int x1), (2, .int x2), (3, .int x3), (4, .int x4)] → W p l e rm_X11_parts s m args below meth c H locs 0 0 (ql_Qi below (dC, dI) (ql_mw h ad cI cZ cJ) A args s res) (F0 m 71 ls [])) (k138 : ql_Z → Int32 → Int32 → Int32 → Int32 → Int32 → Int32 → Int32 → Option (Int32 × ql_Z)) (hk138 : ∀ (z : ql_Z) (x1 : Int32) (x2 : Int32) (x3 : Int32) (x4 : Int32) (x5 : Int32) (x6 : Int32) (x7 : Int32), k138 z x1 x2 x3 x4 x5 x6 x7 = some res → ∀ (H : Heap) (locs : List Loc) (ls : Array Slot), va_P (dC, dI) vwCl ((ql_mw h ad cI cZ cJ) z) H → va_D A ((ql_mw h ad cI cZ cJ) z) → va_S A s.heap H locs → lv_has ls 11 [(0, .ref h), (1, .int x1), (2, .int x2), (3, .int x3), (4, .int x4), (5, .int x5), (6, .int x6), (7, .int x7)] → W p l e rm_X11_parts s m args below meth c H locs 0 0 (ql_Qi below (dC, dI) (ql_mw h ad cI cZ cJ) A args s res) (F0 m 138 ls [])) : ∀ (n : Nat), ∀ (z : ql_Z) (x1 : Int32) (x2 : Int32) (x3 : Int32) (x4 : Int32) (x5 : Int32) (x6 : Int32) (x7 : Int32) (x8 : Int32) (x9 : Int32) (x10 : Int32), f_X11_parts_195 N k71 k138 n z x1 x2 x3 x4 x5 x6 x7 x8 x9 x10 = some res → ∀ (H : Heap) (locs : List Loc) (ls : Array Slot), va_P (dC, dI) vwCl ((ql_mw h ad cI cZ cJ) z) H → va_D A ((ql_mw h ad cI cZ cJ) z) → va_S A s.heap H locs → lv_has ls 11 [(0, .ref h), (1, .int x1), (2, .int x2), (3, .int x3), (4, .int x4), (5, .int x5), (6, .int x6), (7, .int x7), (8, .int x8), (9, .int x9), (10, .int x10)] → W p l e rm_X11_parts s m args below meth c H locs 0 0 (ql_Qi below (dC, dI) (ql_mw h ad cI cZ cJ) A args s res) (F0 m 195 ls []) := by
  have C0q := C0
  obtain ⟨hx, hb, hr, hml, hown, hts, hlocks, hK, hA⟩ := C0q
  intro n
  induction n with
  | zero =>
    intro z x1 x2 x3 x4 x5 x6 x7 x8 x9 x10 hf
    rw [f_X11_parts_195] at hf
    cases hf
  | succ n ih =>
    intro z x1 x2 x3 x4 x5 x6 x7 x8 x9 x10 hf H locs ls hP hD hS hl
    rw [f_X11_parts_195] at hf
    refine lv_iload hx hb dX11_parts_195 (lv_at hl 10 rfl) ?_
    refine lv_iconst (v := 4) hx hb dX11_parts_197 (by decide) ?_
    refine lv_icmp_ge (tgt := 268) hx hb dX11_parts_198 (by decide) (fun c6 => ?_) (fun c6 => ?_)
    · have hf := (if_pos c6).symm.trans hf
      exact w_X11_parts_268 C0 N k71 hk71 k138 hk138 _ _ _ _ _ _ _ _ hf _ _ _ hP hD hS (lv_sub hl [0, 1, 2, 3, 4, 5, 6, 7] rfl)
    · have hf := (if_neg c6).symm.trans hf
      refine lv_iload hx hb dX11_parts_201 (lv_at hl 8 rfl) ?_
      refine lv_if_ne (tgt := 211) hx hb dX11_parts_203 (by decide) (fun c7 => ?_) (fun c7 => ?_)
      · have hf := (if_neg c7).symm.trans hf
        exact w_X11_parts_211 C0 N k71 hk71 k138 hk138 (f_X11_parts_195 N k71 k138 n) ih _ _ _ _ _ _ _ _ _ _ _ hf _ _ _ hP hD hS (lv_sub hl [0, 1, 2, 3, 4, 5, 6, 7, 8, 9, 10] rfl)
      · have hf := (if_pos c7).symm.trans hf
        refine lv_iload hx hb dX11_parts_206 (lv_at hl 9 rfl) ?_
        refine lv_if_eq (tgt := 268) hx hb dX11_parts_208 (by decide) (fun c8 => ?_) (fun c8 => ?_)
        · have hf := (if_pos c8).symm.trans hf
          exact w_X11_parts_268 C0 N k71 hk71 k138 hk138 _ _ _ _ _ _ _ _ hf _ _ _ hP hD hS (lv_sub hl [0, 1, 2, 3, 4, 5, 6, 7] rfl)
        · have hf := (if_neg c8).symm.trans hf
          exact w_X11_parts_211 C0 N k71 hk71 k138 hk138 (f_X11_parts_195 N k71 k138 n) ih _ _ _ _ _ _ _ _ _ _ _ hf _ _ _ hP hD hS (lv_sub hl [0, 1, 2, 3, 4, 5, 6, 7, 8, 9, 10] rfl)
set_option maxHeartbeats 4000000 in
set_option maxRecDepth 100000 in
theorem w_X11_parts_190 {p : Program} {l : Launch} {e : Env} {s : State} {m : MethodId} {args : Array Value} {below : List Frame} {meth : Method} {c : Code} {dC : Nat → ClassId} {dI : Nat → Nat → Nat} {A : Nat → Prop} {h : Nat} {ad : Nat → Nat} {cI cZ cJ : ClassId} {res : Int32 × ql_Z} (C0 : ql_C p s m args meth c cX11_parts 11 (some .int) wsX11_parts RX11 (dC, dI) [(cI, .int), (cZ, .boolean), (cJ, .long)] A) (N : Nat) (k71 : ql_Z → Int32 → Int32 → Int32 → Int32 → Option (Int32 × ql_Z)) (hk71 : ∀ (z : ql_Z) (x1 : Int32) (x2 : Int32) (x3 : Int32) (x4 : Int32), k71 z x1 x2 x3 x4 = some res → ∀ (H : Heap) (locs : List Loc) (ls : Array Slot), va_P (dC, dI) vwCl ((ql_mw h ad cI cZ cJ) z) H → va_D A ((ql_mw h ad cI cZ cJ) z) → va_S A s.heap H locs → lv_has ls 11 [(0, .ref h), (1, .int x1), (2, .int x2), (3, .int x3), (4, .int x4)] → W p l e rm_X11_parts s m args below meth c H locs 0 0 (ql_Qi below (dC, dI) (ql_mw h ad cI cZ cJ) A args s res) (F0 m 71 ls [])) (k138 : ql_Z → Int32 → Int32 → Int32 → Int32 → Int32 → Int32 → Int32 → Option (Int32 × ql_Z)) (hk138 : ∀ (z : ql_Z) (x1 : Int32) (x2 : Int32) (x3 : Int32) (x4 : Int32) (x5 : Int32) (x6 : Int32) (x7 : Int32), k138 z x1 x2 x3 x4 x5 x6 x7 = some res → ∀ (H : Heap) (locs : List Loc) (ls : Array Slot), va_P (dC, dI) vwCl ((ql_mw h ad cI cZ cJ) z) H → va_D A ((ql_mw h ad cI cZ cJ) z) → va_S A s.heap H locs → lv_has ls 11 [(0, .ref h), (1, .int x1), (2, .int x2), (3, .int x3), (4, .int x4), (5, .int x5), (6, .int x6), (7, .int x7)] → W p l e rm_X11_parts s m args below meth c H locs 0 0 (ql_Qi below (dC, dI) (ql_mw h ad cI cZ cJ) A args s res) (F0 m 138 ls [])) : ∀ (z : ql_Z) (x1 : Int32) (x2 : Int32) (x3 : Int32) (x4 : Int32) (x5 : Int32) (x6 : Int32) (x7 : Int32) (x8 : Int32) (y0 : Int32), f_X11_parts_190 N k71 k138 z x1 x2 x3 x4 x5 x6 x7 x8 y0 = some res → ∀ (H : Heap) (locs : List Loc) (ls : Array Slot), va_P (dC, dI) vwCl ((ql_mw h ad cI cZ cJ) z) H → va_D A ((ql_mw h ad cI cZ cJ) z) → va_S A s.heap H locs → lv_has ls 11 [(0, .ref h), (1, .int x1), (2, .int x2), (3, .int x3), (4, .int x4), (5, .int x5), (6, .int x6), (7, .int x7), (8, .int x8)] → W p l e rm_X11_parts s m args below meth c H locs 0 0 (ql_Qi below (dC, dI) (ql_mw h ad cI cZ cJ) A args s res) (F0 m 190 ls [.int y0]) := by
  have C0q := C0
  obtain ⟨hx, hb, hr, hml, hown, hts, hlocks, hK, hA⟩ := C0q
  intro z x1 x2 x3 x4 x5 x6 x7 x8 y0 hf H locs ls hP hD hS hl
  unfold f_X11_parts_190 at hf
  refine lv_istore (lv' := [(9, .int y0), (0, .ref h), (1, .int x1), (2, .int x2), (3, .int x3), (4, .int x4), (5, .int x5), (6, .int x6), (7, .int x7), (8, .int x8)]) hx hb dX11_parts_190 hl (by decide) rfl (fun ls hl => ?_)
  refine lv_iconst (v := 0) hx hb dX11_parts_192 (by decide) ?_
  refine lv_istore (lv' := [(10, .int 0), (9, .int y0), (0, .ref h), (1, .int x1), (2, .int x2), (3, .int x3), (4, .int x4), (5, .int x5), (6, .int x6), (7, .int x7), (8, .int x8)]) hx hb dX11_parts_193 hl (by decide) rfl (fun ls hl => ?_)
  exact w_X11_parts_195 C0 N k71 hk71 k138 hk138 N _ _ _ _ _ _ _ _ _ _ _ hf _ _ _ hP hD hS (lv_sub hl [2, 3, 4, 5, 6, 7, 8, 9, 10, 1, 0] rfl)
set_option maxHeartbeats 4000000 in
set_option maxRecDepth 100000 in
theorem w_X11_parts_189 {p : Program} {l : Launch} {e : Env} {s : State} {m : MethodId} {args : Array Value} {below : List Frame} {meth : Method} {c : Code} {dC : Nat → ClassId} {dI : Nat → Nat → Nat} {A : Nat → Prop} {h : Nat} {ad : Nat → Nat} {cI cZ cJ : ClassId} {res : Int32 × ql_Z} (C0 : ql_C p s m args meth c cX11_parts 11 (some .int) wsX11_parts RX11 (dC, dI) [(cI, .int), (cZ, .boolean), (cJ, .long)] A) (N : Nat) (k71 : ql_Z → Int32 → Int32 → Int32 → Int32 → Option (Int32 × ql_Z)) (hk71 : ∀ (z : ql_Z) (x1 : Int32) (x2 : Int32) (x3 : Int32) (x4 : Int32), k71 z x1 x2 x3 x4 = some res → ∀ (H : Heap) (locs : List Loc) (ls : Array Slot), va_P (dC, dI) vwCl ((ql_mw h ad cI cZ cJ) z) H → va_D A ((ql_mw h ad cI cZ cJ) z) → va_S A s.heap H locs → lv_has ls 11 [(0, .ref h), (1, .int x1), (2, .int x2), (3, .int x3), (4, .int x4)] → W p l e rm_X11_parts s m args below meth c H locs 0 0 (ql_Qi below (dC, dI) (ql_mw h ad cI cZ cJ) A args s res) (F0 m 71 ls [])) (k138 : ql_Z → Int32 → Int32 → Int32 → Int32 → Int32 → Int32 → Int32 → Option (Int32 × ql_Z)) (hk138 : ∀ (z : ql_Z) (x1 : Int32) (x2 : Int32) (x3 : Int32) (x4 : Int32) (x5 : Int32) (x6 : Int32) (x7 : Int32), k138 z x1 x2 x3 x4 x5 x6 x7 = some res → ∀ (H : Heap) (locs : List Loc) (ls : Array Slot), va_P (dC, dI) vwCl ((ql_mw h ad cI cZ cJ) z) H → va_D A ((ql_mw h ad cI cZ cJ) z) → va_S A s.heap H locs → lv_has ls 11 [(0, .ref h), (1, .int x1), (2, .int x2), (3, .int x3), (4, .int x4), (5, .int x5), (6, .int x6), (7, .int x7)] → W p l e rm_X11_parts s m args below meth c H locs 0 0 (ql_Qi below (dC, dI) (ql_mw h ad cI cZ cJ) A args s res) (F0 m 138 ls [])) : ∀ (z : ql_Z) (x1 : Int32) (x2 : Int32) (x3 : Int32) (x4 : Int32) (x5 : Int32) (x6 : Int32) (x7 : Int32) (x8 : Int32), f_X11_parts_189 N k71 k138 z x1 x2 x3 x4 x5 x6 x7 x8 = some res → ∀ (H : Heap) (locs : List Loc) (ls : Array Slot), va_P (dC, dI) vwCl ((ql_mw h ad cI cZ cJ) z) H → va_D A ((ql_mw h ad cI cZ cJ) z) → va_S A s.heap H locs → lv_has ls 11 [(0, .ref h), (1, .int x1), (2, .int x2), (3, .int x3), (4, .int x4), (5, .int x5), (6, .int x6), (7, .int x7), (8, .int x8)] → W p l e rm_X11_parts s m args below meth c H locs 0 0 (ql_Qi below (dC, dI) (ql_mw h ad cI cZ cJ) A args s res) (F0 m 189 ls []) := by
  have C0q := C0
  obtain ⟨hx, hb, hr, hml, hown, hts, hlocks, hK, hA⟩ := C0q
  intro z x1 x2 x3 x4 x5 x6 x7 x8 hf H locs ls hP hD hS hl
  unfold f_X11_parts_189 at hf
  refine lv_iconst (v := 0) hx hb dX11_parts_189 (by decide) ?_
  exact w_X11_parts_190 C0 N k71 hk71 k138 hk138 _ _ _ _ _ _ _ _ _ _ hf _ _ _ hP hD hS (lv_sub hl [0, 1, 2, 3, 4, 5, 6, 7, 8] rfl)
set_option maxHeartbeats 4000000 in
set_option maxRecDepth 100000 in
theorem w_X11_parts_166 {p : Program} {l : Launch} {e : Env} {s : State} {m : MethodId} {args : Array Value} {below : List Frame} {meth : Method} {c : Code} {dC : Nat → ClassId} {dI : Nat → Nat → Nat} {A : Nat → Prop} {h : Nat} {ad : Nat → Nat} {cI cZ cJ : ClassId} {res : Int32 × ql_Z} (C0 : ql_C p s m args meth c cX11_parts 11 (some .int) wsX11_parts RX11 (dC, dI) [(cI, .int), (cZ, .boolean), (cJ, .long)] A) (N : Nat) (k71 : ql_Z → Int32 → Int32 → Int32 → Int32 → Option (Int32 × ql_Z)) (hk71 : ∀ (z : ql_Z) (x1 : Int32) (x2 : Int32) (x3 : Int32) (x4 : Int32), k71 z x1 x2 x3 x4 = some res → ∀ (H : Heap) (locs : List Loc) (ls : Array Slot), va_P (dC, dI) vwCl ((ql_mw h ad cI cZ cJ) z) H → va_D A ((ql_mw h ad cI cZ cJ) z) → va_S A s.heap H locs → lv_has ls 11 [(0, .ref h), (1, .int x1), (2, .int x2), (3, .int x3), (4, .int x4)] → W p l e rm_X11_parts s m args below meth c H locs 0 0 (ql_Qi below (dC, dI) (ql_mw h ad cI cZ cJ) A args s res) (F0 m 71 ls [])) (k138 : ql_Z → Int32 → Int32 → Int32 → Int32 → Int32 → Int32 → Int32 → Option (Int32 × ql_Z)) (hk138 : ∀ (z : ql_Z) (x1 : Int32) (x2 : Int32) (x3 : Int32) (x4 : Int32) (x5 : Int32) (x6 : Int32) (x7 : Int32), k138 z x1 x2 x3 x4 x5 x6 x7 = some res → ∀ (H : Heap) (locs : List Loc) (ls : Array Slot), va_P (dC, dI) vwCl ((ql_mw h ad cI cZ cJ) z) H → va_D A ((ql_mw h ad cI cZ cJ) z) → va_S A s.heap H locs → lv_has ls 11 [(0, .ref h), (1, .int x1), (2, .int x2), (3, .int x3), (4, .int x4), (5, .int x5), (6, .int x6), (7, .int x7)] → W p l e rm_X11_parts s m args below meth c H locs 0 0 (ql_Qi below (dC, dI) (ql_mw h ad cI cZ cJ) A args s res) (F0 m 138 ls [])) : ∀ (z : ql_Z) (x1 : Int32) (x2 : Int32) (x3 : Int32) (x4 : Int32) (x5 : Int32) (x6 : Int32) (x7 : Int32) (y0 : Int32), f_X11_parts_166 N k71 k138 z x1 x2 x3 x4 x5 x6 x7 y0 = some res → ∀ (H : Heap) (locs : List Loc) (ls : Array Slot), va_P (dC, dI) vwCl ((ql_mw h ad cI cZ cJ) z) H → va_D A ((ql_mw h ad cI cZ cJ) z) → va_S A s.heap H locs → lv_has ls 11 [(0, .ref h), (1, .int x1), (2, .int x2), (3, .int x3), (4, .int x4), (5, .int x5), (6, .int x6), (7, .int x7)] → W p l e rm_X11_parts s m args below meth c H locs 0 0 (ql_Qi below (dC, dI) (ql_mw h ad cI cZ cJ) A args s res) (F0 m 166 ls [.int y0]) := by
  have C0q := C0
  obtain ⟨hx, hb, hr, hml, hown, hts, hlocks, hK, hA⟩ := C0q
  intro z x1 x2 x3 x4 x5 x6 x7 y0 hf H locs ls hP hD hS hl
  unfold f_X11_parts_166 at hf
  refine lv_istore (lv' := [(8, .int y0), (0, .ref h), (1, .int x1), (2, .int x2), (3, .int x3), (4, .int x4), (5, .int x5), (6, .int x6), (7, .int x7)]) hx hb dX11_parts_166 hl (by decide) rfl (fun ls hl => ?_)
  refine lv_iload hx hb dX11_parts_168 (lv_at hl 7 rfl) ?_
  refine lv_if_le (tgt := 189) hx hb dX11_parts_170 (by decide) (fun c9 => ?_) (fun c9 => ?_)
  · have hf := (if_pos c9).symm.trans hf
    exact w_X11_parts_189 C0 N k71 hk71 k138 hk138 _ _ _ _ _ _ _ _ _ hf _ _ _ hP hD hS (lv_sub hl [1, 2, 3, 4, 5, 6, 7, 8, 0] rfl)
  · have hf := (if_neg c9).symm.trans hf
    refine lv_aload_n hx hb dX11_parts_173 rfl (lv_at hl 1 rfl) ?_
    refine lv_iload_n hx hb dX11_parts_174 rfl (lv_at hl 3 rfl) ?_
    refine lv_iload hx hb dX11_parts_175 (lv_at hl 7 rfl) ?_
    obtain ⟨u10, hu10, hf⟩ := ql_bd hf
    refine ql_callRVi (As := [.int x2, .int x6]) (rest := []) C0 (c_X11_actOf l dC dI h ad cI cZ cJ N z x2 x6 u10 hu10) (cwV 2 hts gX11_parts_X11_actOf rfl rfl rfl qv_X11_actOf ⟨Nat.le_of_ble_eq_true rfl, Nat.le_of_ble_eq_true rfl⟩) (va_recv hK.1 hP (ci := 11) (q0 := 0) rfl rfl) hK hP hS hl.1 rfl rfl (Nat.le_of_ble_eq_true rfl) dX11_parts_177 (fun H1 locs hk hS => ?_)
    have hP := ql_keep hP hk
    refine lv_iload hx hb dX11_parts_180 (lv_at hl 8 rfl) ?_
    refine lv_icmp_ne (tgt := 189) hx hb dX11_parts_182 (by decide) (fun c11 => ?_) (fun c11 => ?_)
    · have hf := (if_neg c11).symm.trans hf
      exact w_X11_parts_189 C0 N k71 hk71 k138 hk138 _ _ _ _ _ _ _ _ _ hf _ _ _ hP hD hS (lv_sub hl [1, 2, 3, 4, 5, 6, 7, 8, 0] rfl)
    · have hf := (if_pos c11).symm.trans hf
      refine lv_iconst (v := 1) hx hb dX11_parts_185 (by decide) ?_
      refine lv_goto (tgt := 190) hx hb dX11_parts_186 (by decide) ?_
      exact w_X11_parts_190 C0 N k71 hk71 k138 hk138 _ _ _ _ _ _ _ _ _ _ hf _ _ _ hP hD hS (lv_sub hl [1, 2, 3, 4, 5, 6, 7, 8, 0] rfl)
set_option maxHeartbeats 4000000 in
set_option maxRecDepth 100000 in
theorem w_X11_parts_165 {p : Program} {l : Launch} {e : Env} {s : State} {m : MethodId} {args : Array Value} {below : List Frame} {meth : Method} {c : Code} {dC : Nat → ClassId} {dI : Nat → Nat → Nat} {A : Nat → Prop} {h : Nat} {ad : Nat → Nat} {cI cZ cJ : ClassId} {res : Int32 × ql_Z} (C0 : ql_C p s m args meth c cX11_parts 11 (some .int) wsX11_parts RX11 (dC, dI) [(cI, .int), (cZ, .boolean), (cJ, .long)] A) (N : Nat) (k71 : ql_Z → Int32 → Int32 → Int32 → Int32 → Option (Int32 × ql_Z)) (hk71 : ∀ (z : ql_Z) (x1 : Int32) (x2 : Int32) (x3 : Int32) (x4 : Int32), k71 z x1 x2 x3 x4 = some res → ∀ (H : Heap) (locs : List Loc) (ls : Array Slot), va_P (dC, dI) vwCl ((ql_mw h ad cI cZ cJ) z) H → va_D A ((ql_mw h ad cI cZ cJ) z) → va_S A s.heap H locs → lv_has ls 11 [(0, .ref h), (1, .int x1), (2, .int x2), (3, .int x3), (4, .int x4)] → W p l e rm_X11_parts s m args below meth c H locs 0 0 (ql_Qi below (dC, dI) (ql_mw h ad cI cZ cJ) A args s res) (F0 m 71 ls [])) (k138 : ql_Z → Int32 → Int32 → Int32 → Int32 → Int32 → Int32 → Int32 → Option (Int32 × ql_Z)) (hk138 : ∀ (z : ql_Z) (x1 : Int32) (x2 : Int32) (x3 : Int32) (x4 : Int32) (x5 : Int32) (x6 : Int32) (x7 : Int32), k138 z x1 x2 x3 x4 x5 x6 x7 = some res → ∀ (H : Heap) (locs : List Loc) (ls : Array Slot), va_P (dC, dI) vwCl ((ql_mw h ad cI cZ cJ) z) H → va_D A ((ql_mw h ad cI cZ cJ) z) → va_S A s.heap H locs → lv_has ls 11 [(0, .ref h), (1, .int x1), (2, .int x2), (3, .int x3), (4, .int x4), (5, .int x5), (6, .int x6), (7, .int x7)] → W p l e rm_X11_parts s m args below meth c H locs 0 0 (ql_Qi below (dC, dI) (ql_mw h ad cI cZ cJ) A args s res) (F0 m 138 ls [])) : ∀ (z : ql_Z) (x1 : Int32) (x2 : Int32) (x3 : Int32) (x4 : Int32) (x5 : Int32) (x6 : Int32) (x7 : Int32), f_X11_parts_165 N k71 k138 z x1 x2 x3 x4 x5 x6 x7 = some res → ∀ (H : Heap) (locs : List Loc) (ls : Array Slot), va_P (dC, dI) vwCl ((ql_mw h ad cI cZ cJ) z) H → va_D A ((ql_mw h ad cI cZ cJ) z) → va_S A s.heap H locs → lv_has ls 11 [(0, .ref h), (1, .int x1), (2, .int x2), (3, .int x3), (4, .int x4), (5, .int x5), (6, .int x6), (7, .int x7)] → W p l e rm_X11_parts s m args below meth c H locs 0 0 (ql_Qi below (dC, dI) (ql_mw h ad cI cZ cJ) A args s res) (F0 m 165 ls []) := by
  have C0q := C0
  obtain ⟨hx, hb, hr, hml, hown, hts, hlocks, hK, hA⟩ := C0q
  intro z x1 x2 x3 x4 x5 x6 x7 hf H locs ls hP hD hS hl
  unfold f_X11_parts_165 at hf
  refine lv_iconst (v := 0) hx hb dX11_parts_165 (by decide) ?_
  exact w_X11_parts_166 C0 N k71 hk71 k138 hk138 _ _ _ _ _ _ _ _ _ hf _ _ _ hP hD hS (lv_sub hl [0, 1, 2, 3, 4, 5, 6, 7] rfl)
set_option maxHeartbeats 4000000 in
set_option maxRecDepth 100000 in
theorem w_X11_parts_138 {p : Program} {l : Launch} {e : Env} {s : State} {m : MethodId} {args : Array Value} {below : List Frame} {meth : Method} {c : Code} {dC : Nat → ClassId} {dI : Nat → Nat → Nat} {A : Nat → Prop} {h : Nat} {ad : Nat → Nat} {cI cZ cJ : ClassId} {res : Int32 × ql_Z} (C0 : ql_C p s m args meth c cX11_parts 11 (some .int) wsX11_parts RX11 (dC, dI) [(cI, .int), (cZ, .boolean), (cJ, .long)] A) (N : Nat) (k71 : ql_Z → Int32 → Int32 → Int32 → Int32 → Option (Int32 × ql_Z)) (hk71 : ∀ (z : ql_Z) (x1 : Int32) (x2 : Int32) (x3 : Int32) (x4 : Int32), k71 z x1 x2 x3 x4 = some res → ∀ (H : Heap) (locs : List Loc) (ls : Array Slot), va_P (dC, dI) vwCl ((ql_mw h ad cI cZ cJ) z) H → va_D A ((ql_mw h ad cI cZ cJ) z) → va_S A s.heap H locs → lv_has ls 11 [(0, .ref h), (1, .int x1), (2, .int x2), (3, .int x3), (4, .int x4)] → W p l e rm_X11_parts s m args below meth c H locs 0 0 (ql_Qi below (dC, dI) (ql_mw h ad cI cZ cJ) A args s res) (F0 m 71 ls [])) : ∀ (n : Nat), ∀ (z : ql_Z) (x1 : Int32) (x2 : Int32) (x3 : Int32) (x4 : Int32) (x5 : Int32) (x6 : Int32) (x7 : Int32), f_X11_parts_138 N k71 n z x1 x2 x3 x4 x5 x6 x7 = some res → ∀ (H : Heap) (locs : List Loc) (ls : Array Slot), va_P (dC, dI) vwCl ((ql_mw h ad cI cZ cJ) z) H → va_D A ((ql_mw h ad cI cZ cJ) z) → va_S A s.heap H locs → lv_has ls 11 [(0, .ref h), (1, .int x1), (2, .int x2), (3, .int x3), (4, .int x4), (5, .int x5), (6, .int x6), (7, .int x7)] → W p l e rm_X11_parts s m args below meth c H locs 0 0 (ql_Qi below (dC, dI) (ql_mw h ad cI cZ cJ) A args s res) (F0 m 138 ls []) := by
  have C0q := C0
  obtain ⟨hx, hb, hr, hml, hown, hts, hlocks, hK, hA⟩ := C0q
  intro n
  induction n with
  | zero =>
    intro z x1 x2 x3 x4 x5 x6 x7 hf
    rw [f_X11_parts_138] at hf
    cases hf
  | succ n ih =>
    intro z x1 x2 x3 x4 x5 x6 x7 hf H locs ls hP hD hS hl
    rw [f_X11_parts_138] at hf
    refine lv_iload hx hb dX11_parts_138 (lv_at hl 7 rfl) ?_
    refine lv_iconst (v := 4) hx hb dX11_parts_140 (by decide) ?_
    refine lv_icmp_ge (tgt := 274) hx hb dX11_parts_141 (by decide) (fun c12 => ?_) (fun c12 => ?_)
    · have hf := (if_pos c12).symm.trans hf
      refine lv_iinc (v := (x4 + 1)) (lv' := [(4, .int (x4 + 1)), (0, .ref h), (1, .int x1), (2, .int x2), (3, .int x3), (5, .int x5), (6, .int x6), (7, .int x7)]) hx hb dX11_parts_274 hl (k := 4) rfl rfl (by decide) rfl (fun ls hl => ?_)
      refine lv_goto (tgt := 71) hx hb dX11_parts_277 (by decide) ?_
      exact hk71 _ _ _ _ _ hf _ _ _ hP hD hS (lv_sub hl [1, 2, 3, 4, 0] rfl)
    · have hf := (if_neg c12).symm.trans hf
      refine lv_iload hx hb dX11_parts_144 (lv_at hl 5 rfl) ?_
      refine lv_if_le (tgt := 165) hx hb dX11_parts_146 (by decide) (fun c13 => ?_) (fun c13 => ?_)
      · have hf := (if_pos c13).symm.trans hf
        exact w_X11_parts_165 C0 N k71 hk71 (f_X11_parts_138 N k71 n) ih _ _ _ _ _ _ _ _ hf _ _ _ hP hD hS (lv_sub hl [0, 1, 2, 3, 4, 5, 6, 7] rfl)
      · have hf := (if_neg c13).symm.trans hf
        refine lv_aload_n hx hb dX11_parts_149 rfl (lv_at hl 0 rfl) ?_
        refine lv_iload_n hx hb dX11_parts_150 rfl (lv_at hl 1 rfl) ?_
        refine lv_iload hx hb dX11_parts_151 (lv_at hl 5 rfl) ?_
        obtain ⟨u14, hu14, hf⟩ := ql_bd hf
        refine ql_callRVi (As := [.int x1, .int x5]) (rest := []) C0 (c_X11_actOf l dC dI h ad cI cZ cJ N z x1 x5 u14 hu14) (cwV 2 hts gX11_parts_X11_actOf rfl rfl rfl qv_X11_actOf ⟨Nat.le_of_ble_eq_true rfl, Nat.le_of_ble_eq_true rfl⟩) (va_recv hK.1 hP (ci := 11) (q0 := 0) rfl rfl) hK hP hS hl.1 rfl rfl (Nat.le_of_ble_eq_true rfl) dX11_parts_153 (fun H1 locs hk hS => ?_)
        have hP := ql_keep hP hk
        refine lv_iload hx hb dX11_parts_156 (lv_at hl 7 rfl) ?_
        refine lv_icmp_ne (tgt := 165) hx hb dX11_parts_158 (by decide) (fun c15 => ?_) (fun c15 => ?_)
        · have hf := (if_neg c15).symm.trans hf
          exact w_X11_parts_165 C0 N k71 hk71 (f_X11_parts_138 N k71 n) ih _ _ _ _ _ _ _ _ hf _ _ _ hP hD hS (lv_sub hl [0, 1, 2, 3, 4, 5, 6, 7] rfl)
        · have hf := (if_pos c15).symm.trans hf
          refine lv_iconst (v := 1) hx hb dX11_parts_161 (by decide) ?_
          refine lv_goto (tgt := 166) hx hb dX11_parts_162 (by decide) ?_
          exact w_X11_parts_166 C0 N k71 hk71 (f_X11_parts_138 N k71 n) ih _ _ _ _ _ _ _ _ _ hf _ _ _ hP hD hS (lv_sub hl [0, 1, 2, 3, 4, 5, 6, 7] rfl)
set_option maxHeartbeats 4000000 in
set_option maxRecDepth 100000 in
theorem w_X11_parts_135 {p : Program} {l : Launch} {e : Env} {s : State} {m : MethodId} {args : Array Value} {below : List Frame} {meth : Method} {c : Code} {dC : Nat → ClassId} {dI : Nat → Nat → Nat} {A : Nat → Prop} {h : Nat} {ad : Nat → Nat} {cI cZ cJ : ClassId} {res : Int32 × ql_Z} (C0 : ql_C p s m args meth c cX11_parts 11 (some .int) wsX11_parts RX11 (dC, dI) [(cI, .int), (cZ, .boolean), (cJ, .long)] A) (N : Nat) (k71 : ql_Z → Int32 → Int32 → Int32 → Int32 → Option (Int32 × ql_Z)) (hk71 : ∀ (z : ql_Z) (x1 : Int32) (x2 : Int32) (x3 : Int32) (x4 : Int32), k71 z x1 x2 x3 x4 = some res → ∀ (H : Heap) (locs : List Loc) (ls : Array Slot), va_P (dC, dI) vwCl ((ql_mw h ad cI cZ cJ) z) H → va_D A ((ql_mw h ad cI cZ cJ) z) → va_S A s.heap H locs → lv_has ls 11 [(0, .ref h), (1, .int x1), (2, .int x2), (3, .int x3), (4, .int x4)] → W p l e rm_X11_parts s m args below meth c H locs 0 0 (ql_Qi below (dC, dI) (ql_mw h ad cI cZ cJ) A args s res) (F0 m 71 ls [])) : ∀ (z : ql_Z) (x1 : Int32) (x2 : Int32) (x3 : Int32) (x4 : Int32) (x5 : Int32) (x6 : Int32), f_X11_parts_135 N k71 z x1 x2 x3 x4 x5 x6 = some res → ∀ (H : Heap) (locs : List Loc) (ls : Array Slot), va_P (dC, dI) vwCl ((ql_mw h ad cI cZ cJ) z) H → va_D A ((ql_mw h ad cI cZ cJ) z) → va_S A s.heap H locs → lv_has ls 11 [(0, .ref h), (1, .int x1), (2, .int x2), (3, .int x3), (4, .int x4), (5, .int x5), (6, .int x6)] → W p l e rm_X11_parts s m args below meth c H locs 0 0 (ql_Qi below (dC, dI) (ql_mw h ad cI cZ cJ) A args s res) (F0 m 135 ls []) := by
  have C0q := C0
  obtain ⟨hx, hb, hr, hml, hown, hts, hlocks, hK, hA⟩ := C0q
  intro z x1 x2 x3 x4 x5 x6 hf H locs ls hP hD hS hl
  unfold f_X11_parts_135 at hf
  refine lv_iconst (v := 1) hx hb dX11_parts_135 (by decide) ?_
  refine lv_istore (lv' := [(7, .int 1), (0, .ref h), (1, .int x1), (2, .int x2), (3, .int x3), (4, .int x4), (5, .int x5), (6, .int x6)]) hx hb dX11_parts_136 hl (by decide) rfl (fun ls hl => ?_)
  exact w_X11_parts_138 C0 N k71 hk71 N _ _ _ _ _ _ _ _ hf _ _ _ hP hD hS (lv_sub hl [1, 2, 3, 4, 5, 6, 7, 0] rfl)
set_option maxHeartbeats 4000000 in
set_option maxRecDepth 100000 in
theorem w_X11_parts_132 {p : Program} {l : Launch} {e : Env} {s : State} {m : MethodId} {args : Array Value} {below : List Frame} {meth : Method} {c : Code} {dC : Nat → ClassId} {dI : Nat → Nat → Nat} {A : Nat → Prop} {h : Nat} {ad : Nat → Nat} {cI cZ cJ : ClassId} {res : Int32 × ql_Z} (C0 : ql_C p s m args meth c cX11_parts 11 (some .int) wsX11_parts RX11 (dC, dI) [(cI, .int), (cZ, .boolean), (cJ, .long)] A) (N : Nat) : ∀ (z : ql_Z) (x4 : Int32), f_X11_parts_132 N z x4 = some res → ∀ (H : Heap) (locs : List Loc) (ls : Array Slot), va_P (dC, dI) vwCl ((ql_mw h ad cI cZ cJ) z) H → va_D A ((ql_mw h ad cI cZ cJ) z) → va_S A s.heap H locs → lv_has ls 11 [(0, .ref h), (4, .int x4)] → W p l e rm_X11_parts s m args below meth c H locs 0 0 (ql_Qi below (dC, dI) (ql_mw h ad cI cZ cJ) A args s res) (F0 m 132 ls []) := by
  have C0q := C0
  obtain ⟨hx, hb, hr, hml, hown, hts, hlocks, hK, hA⟩ := C0q
  intro z x4 hf H locs ls hP hD hS hl
  unfold f_X11_parts_132 at hf
  refine lv_iload hx hb dX11_parts_132 (lv_at hl 1 rfl) ?_
  exact ql_iret C0 hf hP hD hS dX11_parts_134
set_option maxHeartbeats 4000000 in
set_option maxRecDepth 100000 in
theorem w_X11_parts_118 {p : Program} {l : Launch} {e : Env} {s : State} {m : MethodId} {args : Array Value} {below : List Frame} {meth : Method} {c : Code} {dC : Nat → ClassId} {dI : Nat → Nat → Nat} {A : Nat → Prop} {h : Nat} {ad : Nat → Nat} {cI cZ cJ : ClassId} {res : Int32 × ql_Z} (C0 : ql_C p s m args meth c cX11_parts 11 (some .int) wsX11_parts RX11 (dC, dI) [(cI, .int), (cZ, .boolean), (cJ, .long)] A) (N : Nat) (k71 : ql_Z → Int32 → Int32 → Int32 → Int32 → Option (Int32 × ql_Z)) (hk71 : ∀ (z : ql_Z) (x1 : Int32) (x2 : Int32) (x3 : Int32) (x4 : Int32), k71 z x1 x2 x3 x4 = some res → ∀ (H : Heap) (locs : List Loc) (ls : Array Slot), va_P (dC, dI) vwCl ((ql_mw h ad cI cZ cJ) z) H → va_D A ((ql_mw h ad cI cZ cJ) z) → va_S A s.heap H locs → lv_has ls 11 [(0, .ref h), (1, .int x1), (2, .int x2), (3, .int x3), (4, .int x4)] → W p l e rm_X11_parts s m args below meth c H locs 0 0 (ql_Qi below (dC, dI) (ql_mw h ad cI cZ cJ) A args s res) (F0 m 71 ls [])) : ∀ (z : ql_Z) (x1 : Int32) (x2 : Int32) (x3 : Int32) (x4 : Int32) (x5 : Int32) (x6 : Int32), f_X11_parts_118 N k71 z x1 x2 x3 x4 x5 x6 = some res → ∀ (H : Heap) (locs : List Loc) (ls : Array Slot), va_P (dC, dI) vwCl ((ql_mw h ad cI cZ cJ) z) H → va_D A ((ql_mw h ad cI cZ cJ) z) → va_S A s.heap H locs → lv_has ls 11 [(0, .ref h), (1, .int x1), (2, .int x2), (3, .int x3), (4, .int x4), (5, .int x5), (6, .int x6)] → W p l e rm_X11_parts s m args below meth c H locs 0 0 (ql_Qi below (dC, dI) (ql_mw h ad cI cZ cJ) A args s res) (F0 m 118 ls []) := by
  have C0q := C0
  obtain ⟨hx, hb, hr, hml, hown, hts, hlocks, hK, hA⟩ := C0q
  intro z x1 x2 x3 x4 x5 x6 hf H locs ls hP hD hS hl
  unfold f_X11_parts_118 at hf
  refine lv_iload_n hx hb dX11_parts_118 rfl (lv_at hl 3 rfl) ?_
  refine lv_if_ne (tgt := 135) hx hb dX11_parts_119 (by decide) (fun c16 => ?_) (fun c16 => ?_)
  · have hf := (if_neg c16).symm.trans hf
    exact w_X11_parts_135 C0 N k71 hk71 _ _ _ _ _ _ _ hf _ _ _ hP hD hS (lv_sub hl [0, 1, 2, 3, 4, 5, 6] rfl)
  · have hf := (if_pos c16).symm.trans hf
    refine lv_iload hx hb dX11_parts_122 (lv_at hl 6 rfl) ?_
    refine lv_if_ne (tgt := 135) hx hb dX11_parts_124 (by decide) (fun c17 => ?_) (fun c17 => ?_)
    · have hf := (if_neg c17).symm.trans hf
      exact w_X11_parts_135 C0 N k71 hk71 _ _ _ _ _ _ _ hf _ _ _ hP hD hS (lv_sub hl [0, 1, 2, 3, 4, 5, 6] rfl)
    · have hf := (if_pos c17).symm.trans hf
      refine lv_iload hx hb dX11_parts_127 (lv_at hl 5 rfl) ?_
      refine lv_if_eq (tgt := 135) hx hb dX11_parts_129 (by decide) (fun c18 => ?_) (fun c18 => ?_)
      · have hf := (if_pos c18).symm.trans hf
        exact w_X11_parts_135 C0 N k71 hk71 _ _ _ _ _ _ _ hf _ _ _ hP hD hS (lv_sub hl [0, 1, 2, 3, 4, 5, 6] rfl)
      · have hf := (if_neg c18).symm.trans hf
        exact w_X11_parts_132 C0 N _ _ hf _ _ _ hP hD hS (lv_sub hl [0, 4] rfl)
set_option maxHeartbeats 4000000 in
set_option maxRecDepth 100000 in
theorem w_X11_parts_71 {p : Program} {l : Launch} {e : Env} {s : State} {m : MethodId} {args : Array Value} {below : List Frame} {meth : Method} {c : Code} {dC : Nat → ClassId} {dI : Nat → Nat → Nat} {A : Nat → Prop} {h : Nat} {ad : Nat → Nat} {cI cZ cJ : ClassId} {res : Int32 × ql_Z} (C0 : ql_C p s m args meth c cX11_parts 11 (some .int) wsX11_parts RX11 (dC, dI) [(cI, .int), (cZ, .boolean), (cJ, .long)] A) (N : Nat) : ∀ (n : Nat), ∀ (z : ql_Z) (x1 : Int32) (x2 : Int32) (x3 : Int32) (x4 : Int32), f_X11_parts_71 N n z x1 x2 x3 x4 = some res → ∀ (H : Heap) (locs : List Loc) (ls : Array Slot), va_P (dC, dI) vwCl ((ql_mw h ad cI cZ cJ) z) H → va_D A ((ql_mw h ad cI cZ cJ) z) → va_S A s.heap H locs → lv_has ls 11 [(0, .ref h), (1, .int x1), (2, .int x2), (3, .int x3), (4, .int x4)] → W p l e rm_X11_parts s m args below meth c H locs 0 0 (ql_Qi below (dC, dI) (ql_mw h ad cI cZ cJ) A args s res) (F0 m 71 ls []) := by
  have C0q := C0
  obtain ⟨hx, hb, hr, hml, hown, hts, hlocks, hK, hA⟩ := C0q
  have fl246 := hts (Cond.fieldLink RX11 246 "TestedLoopsModel" "queued" "I") (by decide +kernel)
  have fl62 := hts (Cond.fieldLink RX11 62 "TestedLoopsModel" "queue" "[I") (by decide +kernel)
  intro n
  induction n with
  | zero =>
    intro z x1 x2 x3 x4 hf
    rw [f_X11_parts_71] at hf
    cases hf
  | succ n ih =>
    intro z x1 x2 x3 x4 hf H locs ls hP hD hS hl
    rw [f_X11_parts_71] at hf
    refine lv_iload hx hb dX11_parts_71 (lv_at hl 4 rfl) ?_
    refine lv_aload_n hx hb dX11_parts_73 rfl (lv_at hl 0 rfl) ?_
    refine va_get (D := (dC, dI)) (ci := 11) (v := .int (z.1 31 0)) (C := RX11) (T := TX11) (N := 41) hx hb hts iw_X11_parts_X11 hown hK.1 hP 0 rfl rfl 31 (by decide) fl246 (fun _ h9 => h9) rfl dX11_parts_74 ?_
    refine lv_icmp_ge (tgt := 280) hx hb dX11_parts_77 (by decide) (fun c19 => ?_) (fun c19 => ?_)
    · have hf := (if_pos c19).symm.trans hf
      refine lv_iconst (v := (-1)) hx hb dX11_parts_280 (by decide) ?_
      exact ql_iret C0 hf hP hD hS dX11_parts_281
    · have hf := (if_neg c19).symm.trans hf
      refine lv_aload_n hx hb dX11_parts_80 rfl (lv_at hl 0 rfl) ?_
      refine va_get (D := (dC, dI)) (ci := 11) (v := .ref (ad 26)) (C := RX11) (T := TX11) (N := 41) hx hb hts iw_X11_parts_X11 hown hK.1 hP 0 rfl rfl 26 (by decide) fl62 (fun _ h9 => h9) rfl dX11_parts_81 ?_
      refine lv_iload hx hb dX11_parts_84 (lv_at hl 4 rfl) ?_
      have g0 := ql_in (ql_gt hf)
      have hf := ql_gx hf
      refine va_iald (f := (z.1 26)) hx hb hK.1 hP 18 0 rfl rfl g0 dX11_parts_86 ?_
      refine lv_bipush (v := 18) hx hb dX11_parts_87 (by decide) ?_
      refine lv_idiv hx hb dX11_parts_89 (by decide) ?_
      refine lv_iconst (v := 1) hx hb dX11_parts_90 (by decide) ?_
      refine lv_isub hx hb dX11_parts_91 ?_
      refine lv_istore (lv' := [(5, .int ((((z.1 26) x4.toNatClampNeg) / 18) - 1)), (0, .ref h), (1, .int x1), (2, .int x2), (3, .int x3), (4, .int x4)]) hx hb dX11_parts_92 hl (by decide) rfl (fun ls hl => ?_)
      refine lv_aload_n hx hb dX11_parts_94 rfl (lv_at hl 1 rfl) ?_
      refine va_get (D := (dC, dI)) (ci := 11) (v := .ref (ad 26)) (C := RX11) (T := TX11) (N := 41) hx hb hts iw_X11_parts_X11 hown hK.1 hP 0 rfl rfl 26 (by decide) fl62 (fun _ h9 => h9) rfl dX11_parts_95 ?_
      refine lv_iload hx hb dX11_parts_98 (lv_at hl 5 rfl) ?_
      have g0 := ql_in (ql_gt hf)
      have hf := ql_gx hf
      refine va_iald (f := (z.1 26)) hx hb hK.1 hP 18 0 rfl rfl g0 dX11_parts_100 ?_
      refine lv_bipush (v := 18) hx hb dX11_parts_101 (by decide) ?_
      refine lv_irem hx hb dX11_parts_103 (by decide) ?_
      refine lv_iconst (v := 1) hx hb dX11_parts_104 (by decide) ?_
      refine lv_isub hx hb dX11_parts_105 ?_
      refine lv_istore (lv' := [(6, .int ((((z.1 26) x4.toNatClampNeg) - ((z.1 26) x4.toNatClampNeg) / 18 * 18) - 1)), (5, .int ((((z.1 26) x4.toNatClampNeg) / 18) - 1)), (0, .ref h), (1, .int x1), (2, .int x2), (3, .int x3), (4, .int x4)]) hx hb dX11_parts_106 hl (by decide) rfl (fun ls hl => ?_)
      refine lv_iload hx hb dX11_parts_108 (lv_at hl 1 rfl) ?_
      refine lv_if_ne (tgt := 118) hx hb dX11_parts_110 (by decide) (fun c20 => ?_) (fun c20 => ?_)
      · have hf := (if_neg c20).symm.trans hf
        exact w_X11_parts_118 C0 N (f_X11_parts_71 N n) ih _ _ _ _ _ _ _ hf _ _ _ hP hD hS (lv_sub hl [2, 3, 4, 5, 6, 1, 0] rfl)
      · have hf := (if_pos c20).symm.trans hf
        refine lv_iload hx hb dX11_parts_113 (lv_at hl 0 rfl) ?_
        refine lv_if_ne (tgt := 132) hx hb dX11_parts_115 (by decide) (fun c21 => ?_) (fun c21 => ?_)
        · have hf := (if_neg c21).symm.trans hf
          exact w_X11_parts_132 C0 N _ _ hf _ _ _ hP hD hS (lv_sub hl [2, 6] rfl)
        · have hf := (if_pos c21).symm.trans hf
          exact w_X11_parts_118 C0 N (f_X11_parts_71 N n) ih _ _ _ _ _ _ _ hf _ _ _ hP hD hS (lv_sub hl [2, 3, 4, 5, 6, 1, 0] rfl)
set_option maxHeartbeats 4000000 in
set_option maxRecDepth 100000 in
theorem w_X11_parts_33 {p : Program} {l : Launch} {e : Env} {s : State} {m : MethodId} {args : Array Value} {below : List Frame} {meth : Method} {c : Code} {dC : Nat → ClassId} {dI : Nat → Nat → Nat} {A : Nat → Prop} {h : Nat} {ad : Nat → Nat} {cI cZ cJ : ClassId} {res : Int32 × ql_Z} (C0 : ql_C p s m args meth c cX11_parts 11 (some .int) wsX11_parts RX11 (dC, dI) [(cI, .int), (cZ, .boolean), (cJ, .long)] A) (N : Nat) : ∀ (n : Nat), ∀ (z : ql_Z) (x1 : Int32) (x2 : Int32) (x3 : Int32) (x4 : Int32), f_X11_parts_33 N n z x1 x2 x3 x4 = some res → ∀ (H : Heap) (locs : List Loc) (ls : Array Slot), va_P (dC, dI) vwCl ((ql_mw h ad cI cZ cJ) z) H → va_D A ((ql_mw h ad cI cZ cJ) z) → va_S A s.heap H locs → lv_has ls 11 [(0, .ref h), (1, .int x1), (2, .int x2), (3, .int x3), (4, .int x4)] → W p l e rm_X11_parts s m args below meth c H locs 0 0 (ql_Qi below (dC, dI) (ql_mw h ad cI cZ cJ) A args s res) (F0 m 33 ls []) := by
  have C0q := C0
  obtain ⟨hx, hb, hr, hml, hown, hts, hlocks, hK, hA⟩ := C0q
  intro n
  induction n with
  | zero =>
    intro z x1 x2 x3 x4 hf
    rw [f_X11_parts_33] at hf
    cases hf
  | succ n ih =>
    intro z x1 x2 x3 x4 hf H locs ls hP hD hS hl
    rw [f_X11_parts_33] at hf
    refine lv_iload hx hb dX11_parts_33 (lv_at hl 4 rfl) ?_
    refine lv_iconst (v := 4) hx hb dX11_parts_35 (by decide) ?_
    refine lv_icmp_ge (tgt := 68) hx hb dX11_parts_36 (by decide) (fun c22 => ?_) (fun c22 => ?_)
    · have hf := (if_pos c22).symm.trans hf
      refine lv_iconst (v := 0) hx hb dX11_parts_68 (by decide) ?_
      refine lv_istore (lv' := [(4, .int 0), (0, .ref h), (1, .int x1), (2, .int x2), (3, .int x3)]) hx hb dX11_parts_69 hl (by decide) rfl (fun ls hl => ?_)
      exact w_X11_parts_71 C0 N N _ _ _ _ _ hf _ _ _ hP hD hS (lv_sub hl [1, 2, 3, 4, 0] rfl)
    · have hf := (if_neg c22).symm.trans hf
      refine lv_aload_n hx hb dX11_parts_39 rfl (lv_at hl 0 rfl) ?_
      refine lv_aload_n hx hb dX11_parts_40 rfl (lv_at hl 0 rfl) ?_
      refine lv_iload_n hx hb dX11_parts_41 rfl (lv_at hl 1 rfl) ?_
      refine lv_iconst (v := 0) hx hb dX11_parts_42 (by decide) ?_
      refine lv_iload hx hb dX11_parts_43 (lv_at hl 4 rfl) ?_
      obtain ⟨u23, hu23, hf⟩ := ql_bd hf
      refine ql_callRVi (As := [.int x1, .int 0, .int x4]) (rest := [.ref h]) C0 (c_X11_to l dC dI h ad cI cZ cJ N z x1 0 x4 u23 hu23) (cwV 3 hts gX11_parts_X11_to rfl rfl rfl qv_X11_to ⟨Nat.le_of_ble_eq_true rfl, Nat.le_of_ble_eq_true rfl⟩) (va_recv hK.1 hP (ci := 11) (q0 := 0) rfl rfl) hK hP hS hl.1 rfl rfl (Nat.le_of_ble_eq_true rfl) dX11_parts_45 (fun H1 locs hk hS => ?_)
      have hP := ql_keep hP hk
      refine lv_aload_n hx hb dX11_parts_48 rfl (lv_at hl 0 rfl) ?_
      refine lv_iload_n hx hb dX11_parts_49 rfl (lv_at hl 2 rfl) ?_
      refine lv_iconst (v := 0) hx hb dX11_parts_50 (by decide) ?_
      refine lv_iload hx hb dX11_parts_51 (lv_at hl 4 rfl) ?_
      obtain ⟨u24, hu24, hf⟩ := ql_bd hf
      refine ql_callRVi (As := [.int x2, .int 0, .int x4]) (rest := [.int u23, .ref h]) C0 (c_X11_to l dC dI h ad cI cZ cJ N z x2 0 x4 u24 hu24) (cwV 3 hts gX11_parts_X11_to rfl rfl rfl qv_X11_to ⟨Nat.le_of_ble_eq_true rfl, Nat.le_of_ble_eq_true rfl⟩) (va_recv hK.1 hP (ci := 11) (q0 := 0) rfl rfl) hK hP hS hl.1 rfl rfl (Nat.le_of_ble_eq_true rfl) dX11_parts_53 (fun H1 locs hk hS => ?_)
      have hP := ql_keep hP hk
      refine lv_iconst (v := (-1)) hx hb dX11_parts_56 (by decide) ?_
      refine lv_iload hx hb dX11_parts_57 (lv_at hl 4 rfl) ?_
      obtain ⟨u25, hu25, hf⟩ := ql_bd hf
      refine ql_callVv (As := [.int u23, .int u24, .int (-1), .int x4]) (rest := []) C0 (c_X11_meets l dC dI h ad cI cZ cJ N z u23 u24 (-1) x4 u25 hu25) (cwV 4 hts gX11_parts_X11_meets rfl rfl rfl qv_X11_meets ⟨Nat.le_of_ble_eq_true rfl, Nat.le_of_ble_eq_true rfl⟩) (va_recv hK.1 hP (ci := 11) (q0 := 0) rfl rfl) hP hD hS hl.1 rfl rfl (Nat.le_of_ble_eq_true rfl) dX11_parts_59 (fun H locs hP hD hS => ?_)
      refine lv_iinc (v := (x4 + 1)) (lv' := [(4, .int (x4 + 1)), (0, .ref h), (1, .int x1), (2, .int x2), (3, .int x3)]) hx hb dX11_parts_62 hl (k := 4) rfl rfl (by decide) rfl (fun ls hl => ?_)
      refine lv_goto (tgt := 33) hx hb dX11_parts_65 (by decide) ?_
      exact ih _ _ _ _ _ hf _ _ _ hP hD hS (lv_sub hl [1, 2, 3, 4, 0] rfl)
set_option maxHeartbeats 4000000 in
set_option maxRecDepth 100000 in
theorem w_X11_parts_3 {p : Program} {l : Launch} {e : Env} {s : State} {m : MethodId} {args : Array Value} {below : List Frame} {meth : Method} {c : Code} {dC : Nat → ClassId} {dI : Nat → Nat → Nat} {A : Nat → Prop} {h : Nat} {ad : Nat → Nat} {cI cZ cJ : ClassId} {res : Int32 × ql_Z} (C0 : ql_C p s m args meth c cX11_parts 11 (some .int) wsX11_parts RX11 (dC, dI) [(cI, .int), (cZ, .boolean), (cJ, .long)] A) (N : Nat) : ∀ (n : Nat), ∀ (z : ql_Z) (x1 : Int32) (x2 : Int32) (x3 : Int32) (x4 : Int32), f_X11_parts_3 N n z x1 x2 x3 x4 = some res → ∀ (H : Heap) (locs : List Loc) (ls : Array Slot), va_P (dC, dI) vwCl ((ql_mw h ad cI cZ cJ) z) H → va_D A ((ql_mw h ad cI cZ cJ) z) → va_S A s.heap H locs → lv_has ls 11 [(0, .ref h), (1, .int x1), (2, .int x2), (3, .int x3), (4, .int x4)] → W p l e rm_X11_parts s m args below meth c H locs 0 0 (ql_Qi below (dC, dI) (ql_mw h ad cI cZ cJ) A args s res) (F0 m 3 ls []) := by
  have C0q := C0
  obtain ⟨hx, hb, hr, hml, hown, hts, hlocks, hK, hA⟩ := C0q
  have fl246 := hts (Cond.fieldLink RX11 246 "TestedLoopsModel" "queued" "I") (by decide +kernel)
  have fl74 := hts (Cond.fieldLink RX11 74 "TestedLoopsModel" "met" "[Z") (by decide +kernel)
  intro n
  induction n with
  | zero =>
    intro z x1 x2 x3 x4 hf
    rw [f_X11_parts_3] at hf
    cases hf
  | succ n ih =>
    intro z x1 x2 x3 x4 hf H locs ls hP hD hS hl
    rw [f_X11_parts_3] at hf
    refine lv_iload hx hb dX11_parts_3 (lv_at hl 4 rfl) ?_
    refine lv_sipush (v := 324) hx hb dX11_parts_5 (by decide) ?_
    refine lv_icmp_ge (tgt := 25) hx hb dX11_parts_8 (by decide) (fun c26 => ?_) (fun c26 => ?_)
    · have hf := (if_pos c26).symm.trans hf
      refine lv_aload_n hx hb dX11_parts_25 rfl (lv_at hl 0 rfl) ?_
      refine lv_iconst (v := 0) hx hb dX11_parts_26 (by decide) ?_
      refine va_put (D := (dC, dI)) (ci := 11) (v := .int 0) (ty := .int) (C := RX11) (T := TX11) (N := 41) hx hb hts iw_X11_parts_X11 tyX11 tyX11_ok nmX11 hown hK.1 hP hD hS 0 rfl rfl 31 (by decide) fl246 (fun _ h9 => h9) rfl (by decide +kernel) rfl rfl (Nat.le_of_ble_eq_true rfl) dX11_parts_27 (fun H locs hP hD hS => ?_)
      refine lv_iconst (v := 0) hx hb dX11_parts_30 (by decide) ?_
      refine lv_istore (lv' := [(4, .int 0), (0, .ref h), (1, .int x1), (2, .int x2), (3, .int x3)]) hx hb dX11_parts_31 hl (by decide) rfl (fun ls hl => ?_)
      exact w_X11_parts_33 C0 N N _ _ _ _ _ hf _ _ _ hP hD hS (lv_sub hl [1, 2, 3, 4, 0] rfl)
    · have hf := (if_neg c26).symm.trans hf
      refine lv_aload_n hx hb dX11_parts_11 rfl (lv_at hl 0 rfl) ?_
      refine va_get (D := (dC, dI)) (ci := 11) (v := .ref (ad 30)) (C := RX11) (T := TX11) (N := 41) hx hb hts iw_X11_parts_X11 hown hK.1 hP 0 rfl rfl 30 (by decide) fl74 (fun _ h9 => h9) rfl dX11_parts_12 ?_
      refine lv_iload hx hb dX11_parts_15 (lv_at hl 4 rfl) ?_
      refine lv_iconst (v := 0) hx hb dX11_parts_17 (by decide) ?_
      have g0 := ql_in (ql_gt hf)
      have hf := ql_gx hf
      refine va_zast (f := (z.1 30)) hx hb hK.1 hP hD hS 22 1 rfl rfl g0 dX11_parts_18 (fun H locs hP hD hS => ?_)
      refine lv_iinc (v := (x4 + 1)) (lv' := [(4, .int (x4 + 1)), (0, .ref h), (1, .int x1), (2, .int x2), (3, .int x3)]) hx hb dX11_parts_19 hl (k := 4) rfl rfl (by decide) rfl (fun ls hl => ?_)
      refine lv_goto (tgt := 3) hx hb dX11_parts_22 (by decide) ?_
      exact ih _ _ _ _ _ hf _ _ _ hP hD hS (lv_sub hl [1, 2, 3, 4, 0] rfl)
set_option maxHeartbeats 4000000 in
set_option maxRecDepth 100000 in
theorem w_X11_parts_0 {p : Program} {l : Launch} {e : Env} {s : State} {m : MethodId} {args : Array Value} {below : List Frame} {meth : Method} {c : Code} {dC : Nat → ClassId} {dI : Nat → Nat → Nat} {A : Nat → Prop} {h : Nat} {ad : Nat → Nat} {cI cZ cJ : ClassId} {res : Int32 × ql_Z} (C0 : ql_C p s m args meth c cX11_parts 11 (some .int) wsX11_parts RX11 (dC, dI) [(cI, .int), (cZ, .boolean), (cJ, .long)] A) (N : Nat) : ∀ (z : ql_Z) (x1 : Int32) (x2 : Int32) (x3 : Int32), f_X11_parts_0 N z x1 x2 x3 = some res → ∀ (H : Heap) (locs : List Loc) (ls : Array Slot), va_P (dC, dI) vwCl ((ql_mw h ad cI cZ cJ) z) H → va_D A ((ql_mw h ad cI cZ cJ) z) → va_S A s.heap H locs → lv_has ls 11 [(0, .ref h), (1, .int x1), (2, .int x2), (3, .int x3)] → W p l e rm_X11_parts s m args below meth c H locs 0 0 (ql_Qi below (dC, dI) (ql_mw h ad cI cZ cJ) A args s res) (F0 m 0 ls []) := by
  have C0q := C0
  obtain ⟨hx, hb, hr, hml, hown, hts, hlocks, hK, hA⟩ := C0q
  intro z x1 x2 x3 hf H locs ls hP hD hS hl
  unfold f_X11_parts_0 at hf
  refine lv_iconst (v := 0) hx hb dX11_parts_0 (by decide) ?_
  refine lv_istore (lv' := [(4, .int 0), (0, .ref h), (1, .int x1), (2, .int x2), (3, .int x3)]) hx hb dX11_parts_1 hl (by decide) rfl (fun ls hl => ?_)
  exact w_X11_parts_3 C0 N N _ _ _ _ _ hf _ _ _ hP hD hS (lv_sub hl [1, 2, 3, 4, 0] rfl)
set_option maxRecDepth 100000 in
theorem c_X11_parts (l : Launch) (dC : Nat → ClassId) (dI : Nat → Nat → Nat) (h : Nat) (ad : Nat → Nat) (cI cZ cJ : ClassId) (N : Nat) (z : ql_Z) (x1 : Int32) (x2 : Int32) (x3 : Int32) (res : Int32 × ql_Z) (hf : f_X11_parts N z x1 x2 x3 = some res) : ql_Mi l yX11_parts wsX11_parts rm_X11_parts (dC, dI) [(cI, .int), (cZ, .boolean), (cJ, .long)] (ql_mw h ad cI cZ cJ) [.ref h, .int x1, .int x2, .int x3] z res :=
  ql_start_i (by decide) rfl (Nat.le_of_ble_eq_true rfl) (fun p e s m below meth c A ls C0 hl hP hD hS => w_X11_parts_0 C0 N z x1 x2 x3 hf s.heap [] ls hP hD hS (lv_sub (show lv_has ls 11 [(0, .ref h), (1, .int x1), (2, .int x2), (3, .int x3)] from hl) [0, 1, 2, 3] rfl))
/-! ===== TestedLoopsModel.alike(II)I ===== -/
abbrev rm_X11_alike : Room := { frames := 3, cells := 0, slots := 0, locals := 66 }
theorem iw_X11_alike_X11 : ∀ w ∈ wsX110, w ∈ wsX11_alike := fun w h => List.mem_cons_of_mem _ (List.mem_append_right _ h)
theorem qv_X11_alike : yX11_alike.cls = RX11 ∧ yX11_alike.cls ≠ "java/lang/invoke/MethodHandle" ∧ yX11_alike.cls ≠ "java/lang/invoke/VarHandle" ∧ (parseMethodDescriptor yX11_alike.desc).map (fun d => d.parameters.length) = some 2 := by decide +kernel
def f_X11_alike_0 (N : Nat) (z : ql_Z) (x1 : Int32) (x2 : Int32) : Option (Int32 × ql_Z) := (f_X11_arePrograms N x1 x2).bind fun u1 => if u1 = 0 then some ((-1), z) else (f_X11_parts N z x1 x2 0).bind fun u3 => if 0 ≤ u3.1 then some (0, u3.2) else some (1, u3.2)
def f_X11_alike (N : Nat) (z : ql_Z) (x1 : Int32) (x2 : Int32) : Option (Int32 × ql_Z) := f_X11_alike_0 N z x1 x2
set_option maxHeartbeats 4000000 in
set_option maxRecDepth 100000 in
theorem w_X11_alike_0 {p : Program} {l : Launch} {e : Env} {s : State} {m : MethodId} {args : Array Value} {below : List Frame} {meth : Method} {c : Code} {dC : Nat → ClassId} {dI : Nat → Nat → Nat} {A : Nat → Prop} {h : Nat} {ad : Nat → Nat} {cI cZ cJ : ClassId} {res : Int32 × ql_Z} (C0 : ql_C p s m args meth c cX11_alike 3 (some .int) wsX11_alike RX11 (dC, dI) [(cI, .int), (cZ, .boolean), (cJ, .long)] A) (N : Nat) : ∀ (z : ql_Z) (x1 : Int32) (x2 : Int32), f_X11_alike_0 N z x1 x2 = some res → ∀ (H : Heap) (locs : List Loc) (ls : Array Slot), va_P (dC, dI) vwCl ((ql_mw h ad cI cZ cJ) z) H → va_D A ((ql_mw h ad cI cZ cJ) z) → va_S A s.heap H locs → lv_has ls 3 [(0, .ref h), (1, .int x1), (2, .int x2)] → W p l e rm_X11_alike s m args below meth c H locs 0 0 (ql_Qi below (dC, dI) (ql_mw h ad cI cZ cJ) A args s res) (F0 m 0 ls []) := by
  have C0q := C0
  obtain ⟨hx, hb, hr, hml, hown, hts, hlocks, hK, hA⟩ := C0q
  intro z x1 x2 hf H locs ls hP hD hS hl
  unfold f_X11_alike_0 at hf
  refine lv_iload_n hx hb dX11_alike_0 rfl (lv_at hl 1 rfl) ?_
  refine lv_iload_n hx hb dX11_alike_1 rfl (lv_at hl 2 rfl) ?_
  obtain ⟨u1, hu1, hf⟩ := ql_bd hf
  refine ql_callRSi (As := [.int x1, .int x2]) (rest := []) C0 (c_X11_arePrograms l dC dI N x1 x2 u1 hu1) (va_cwS 2 hts gX11_alike_X11_arePrograms rfl rfl rfl qd_X11_arePrograms ⟨Nat.le_of_ble_eq_true rfl, Nat.le_of_ble_eq_true rfl⟩) (hK.sub [] rfl) ql_nil hS hl.1 rfl rfl (Nat.le_of_ble_eq_true rfl) dX11_alike_2 (fun H1 locs hk hS => ?_)
  have hP := ql_keep hP hk
  refine lv_if_ne (tgt := 12) hx hb dX11_alike_5 (by decide) (fun c2 => ?_) (fun c2 => ?_)
  · have hf := (if_neg c2).symm.trans hf
    refine lv_aload_n hx hb dX11_alike_12 rfl (lv_at hl 0 rfl) ?_
    refine lv_iload_n hx hb dX11_alike_13 rfl (lv_at hl 1 rfl) ?_
    refine lv_iload_n hx hb dX11_alike_14 rfl (lv_at hl 2 rfl) ?_
    refine lv_iconst (v := 0) hx hb dX11_alike_15 (by decide) ?_
    obtain ⟨u3, hu3, hf⟩ := ql_bd hf
    refine ql_callVi (As := [.int x1, .int x2, .int 0]) (rest := []) C0 (c_X11_parts l dC dI h ad cI cZ cJ N z x1 x2 0 u3 hu3) (cwV 3 hts gX11_alike_X11_parts rfl rfl rfl qv_X11_parts ⟨Nat.le_of_ble_eq_true rfl, Nat.le_of_ble_eq_true rfl⟩) (va_recv hK.1 hP (ci := 11) (q0 := 0) rfl rfl) hP hD hS hl.1 rfl rfl (Nat.le_of_ble_eq_true rfl) dX11_alike_16 (fun H locs hP hD hS => ?_)
    refine lv_if_ge (tgt := 26) hx hb dX11_alike_19 (by decide) (fun c4 => ?_) (fun c4 => ?_)
    · have hf := (if_pos c4).symm.trans hf
      refine lv_iconst (v := 0) hx hb dX11_alike_26 (by decide) ?_
      exact ql_iret C0 hf hP hD hS dX11_alike_27
    · have hf := (if_neg c4).symm.trans hf
      refine lv_iconst (v := 1) hx hb dX11_alike_22 (by decide) ?_
      refine lv_goto (tgt := 27) hx hb dX11_alike_23 (by decide) ?_
      exact ql_iret C0 hf hP hD hS dX11_alike_27
  · have hf := (if_pos c2).symm.trans hf
    refine lv_iconst (v := (-1)) hx hb dX11_alike_8 (by decide) ?_
    refine lv_goto (tgt := 27) hx hb dX11_alike_9 (by decide) ?_
    exact ql_iret C0 hf hP hD hS dX11_alike_27
set_option maxRecDepth 100000 in
theorem c_X11_alike (l : Launch) (dC : Nat → ClassId) (dI : Nat → Nat → Nat) (h : Nat) (ad : Nat → Nat) (cI cZ cJ : ClassId) (N : Nat) (z : ql_Z) (x1 : Int32) (x2 : Int32) (res : Int32 × ql_Z) (hf : f_X11_alike N z x1 x2 = some res) : ql_Mi l yX11_alike wsX11_alike rm_X11_alike (dC, dI) [(cI, .int), (cZ, .boolean), (cJ, .long)] (ql_mw h ad cI cZ cJ) [.ref h, .int x1, .int x2] z res :=
  ql_start_i (by decide) rfl (Nat.le_of_ble_eq_true rfl) (fun p e s m below meth c A ls C0 hl hP hD hS => w_X11_alike_0 C0 N z x1 x2 hf s.heap [] ls hP hD hS (lv_sub (show lv_has ls 3 [(0, .ref h), (1, .int x1), (2, .int x2)] from hl) [0, 1, 2] rfl))
/-! ===== TestedLoopsModel.apart(II)J ===== -/
abbrev rm_X11_apart : Room := { frames := 3, cells := 0, slots := 0, locals := 66 }
theorem iw_X11_apart_X11 : ∀ w ∈ wsX110, w ∈ wsX11_apart := fun w h => List.mem_cons_of_mem _ (List.mem_append_right _ h)
theorem qv_X11_apart : yX11_apart.cls = RX11 ∧ yX11_apart.cls ≠ "java/lang/invoke/MethodHandle" ∧ yX11_apart.cls ≠ "java/lang/invoke/VarHandle" ∧ (parseMethodDescriptor yX11_apart.desc).map (fun d => d.parameters.length) = some 2 := by decide +kernel
def f_X11_apart_35 (N : Nat) (z : ql_Z) (x3 : Int32) : Option (Int64 × ql_Z) := if 0 ≤ x3 then some ((-10), z) else some ((-9), z)
def f_X11_apart_58 (N : Nat) : Nat → ql_Z → Int64 → Int64 → Int32 → Option (Int64 × ql_Z)
  | 0, _, _, _, _ => none
  | n + 1, z, x4, x6, x8 => if x8 < 0 then some (x4, z) else if ql_ib x8 324 = true then if ql_ib x8 324 = true then f_X11_apart_58 N n z (x4 + (x6 * ((z.1 28) x8.toNatClampNeg).toInt64)) (x6 * 12) ((z.1 27) x8.toNatClampNeg) else none else none
def f_X11_apart_0 (N : Nat) (z : ql_Z) (x1 : Int32) (x2 : Int32) : Option (Int64 × ql_Z) := (f_X11_arePrograms N x1 x2).bind fun u3 => if u3 = 0 then some ((-1), z) else (f_X11_parts N z x1 x2 0).bind fun u5 => if u5.1 < 0 then f_X11_apart_35 N u5.2 u5.1 else if ql_ib u5.1 324 = true then if ((u5.2.1 29) u5.1.toNatClampNeg) ≤ 16 then f_X11_apart_58 N N u5.2 0 1 u5.1 else f_X11_apart_35 N u5.2 u5.1 else none
def f_X11_apart (N : Nat) (z : ql_Z) (x1 : Int32) (x2 : Int32) : Option (Int64 × ql_Z) := f_X11_apart_0 N z x1 x2
set_option maxHeartbeats 4000000 in
set_option maxRecDepth 100000 in
theorem w_X11_apart_35 {p : Program} {l : Launch} {e : Env} {s : State} {m : MethodId} {args : Array Value} {below : List Frame} {meth : Method} {c : Code} {dC : Nat → ClassId} {dI : Nat → Nat → Nat} {A : Nat → Prop} {h : Nat} {ad : Nat → Nat} {cI cZ cJ : ClassId} {res : Int64 × ql_Z} (C0 : ql_C p s m args meth c cX11_apart 9 (some .long) wsX11_apart RX11 (dC, dI) [(cI, .int), (cZ, .boolean), (cJ, .long)] A) (N : Nat) : ∀ (z : ql_Z) (x3 : Int32), f_X11_apart_35 N z x3 = some res → ∀ (H : Heap) (locs : List Loc) (ls : Array Slot), va_P (dC, dI) vwCl ((ql_mw h ad cI cZ cJ) z) H → va_D A ((ql_mw h ad cI cZ cJ) z) → va_S A s.heap H locs → lv_has ls 9 [(0, .ref h), (3, .int x3)] → W p l e rm_X11_apart s m args below meth c H locs 0 0 (ql_Ql below (dC, dI) (ql_mw h ad cI cZ cJ) A args s res) (F0 m 35 ls []) := by
  have C0q := C0
  obtain ⟨hx, hb, hr, hml, hown, hts, hlocks, hK, hA⟩ := C0q
  have fl265 := hts (Cond.constantLong RX11 265 (-10)) (by decide +kernel)
  have fl263 := hts (Cond.constantLong RX11 263 (-9)) (by decide +kernel)
  intro z x3 hf H locs ls hP hD hS hl
  unfold f_X11_apart_35 at hf
  refine lv_iload_n hx hb dX11_apart_35 rfl (lv_at hl 1 rfl) ?_
  refine lv_if_ge (tgt := 45) hx hb dX11_apart_36 (by decide) (fun c1 => ?_) (fun c1 => ?_)
  · have hf := (if_pos c1).symm.trans hf
    refine lv_ldc2 hx hb hown fl265 dX11_apart_45 ?_
    exact ql_lret C0 hf hP hD hS dX11_apart_48
  · have hf := (if_neg c1).symm.trans hf
    refine lv_ldc2 hx hb hown fl263 dX11_apart_39 ?_
    refine lv_goto (tgt := 48) hx hb dX11_apart_42 (by decide) ?_
    exact ql_lret C0 hf hP hD hS dX11_apart_48
set_option maxHeartbeats 4000000 in
set_option maxRecDepth 100000 in
theorem w_X11_apart_58 {p : Program} {l : Launch} {e : Env} {s : State} {m : MethodId} {args : Array Value} {below : List Frame} {meth : Method} {c : Code} {dC : Nat → ClassId} {dI : Nat → Nat → Nat} {A : Nat → Prop} {h : Nat} {ad : Nat → Nat} {cI cZ cJ : ClassId} {res : Int64 × ql_Z} (C0 : ql_C p s m args meth c cX11_apart 9 (some .long) wsX11_apart RX11 (dC, dI) [(cI, .int), (cZ, .boolean), (cJ, .long)] A) (N : Nat) : ∀ (n : Nat), ∀ (z : ql_Z) (x4 : Int64) (x6 : Int64) (x8 : Int32), f_X11_apart_58 N n z x4 x6 x8 = some res → ∀ (H : Heap) (locs : List Loc) (ls : Array Slot), va_P (dC, dI) vwCl ((ql_mw h ad cI cZ cJ) z) H → va_D A ((ql_mw h ad cI cZ cJ) z) → va_S A s.heap H locs → lv_has ls 9 [(0, .ref h), (4, .long x4), (6, .long x6), (8, .int x8)] → W p l e rm_X11_apart s m args below meth c H locs 0 0 (ql_Ql below (dC, dI) (ql_mw h ad cI cZ cJ) A args s res) (F0 m 58 ls []) := by
  have C0q := C0
  obtain ⟨hx, hb, hr, hml, hown, hts, hlocks, hK, hA⟩ := C0q
  have fl68 := hts (Cond.fieldLink RX11 68 "TestedLoopsModel" "digit" "[I") (by decide +kernel)
  have fl267 := hts (Cond.constantLong RX11 267 (12)) (by decide +kernel)
  have fl65 := hts (Cond.fieldLink RX11 65 "TestedLoopsModel" "parent" "[I") (by decide +kernel)
  intro n
  induction n with
  | zero =>
    intro z x4 x6 x8 hf
    rw [f_X11_apart_58] at hf
    cases hf
  | succ n ih =>
    intro z x4 x6 x8 hf H locs ls hP hD hS hl
    rw [f_X11_apart_58] at hf
    refine lv_iload hx hb dX11_apart_58 (lv_at hl 3 rfl) ?_
    refine lv_if_lt (tgt := 99) hx hb dX11_apart_60 (by decide) (fun c2 => ?_) (fun c2 => ?_)
    · have hf := (if_pos c2).symm.trans hf
      refine lv_lload hx hb dX11_apart_99 (lv_at hl 1 rfl) ?_
      exact ql_lret C0 hf hP hD hS dX11_apart_101
    · have hf := (if_neg c2).symm.trans hf
      refine lv_lload hx hb dX11_apart_63 (lv_at hl 1 rfl) ?_
      refine lv_lload hx hb dX11_apart_65 (lv_at hl 2 rfl) ?_
      refine lv_aload_n hx hb dX11_apart_67 rfl (lv_at hl 0 rfl) ?_
      refine va_get (D := (dC, dI)) (ci := 11) (v := .ref (ad 28)) (C := RX11) (T := TX11) (N := 41) hx hb hts iw_X11_apart_X11 hown hK.1 hP 0 rfl rfl 28 (by decide) fl68 (fun _ h9 => h9) rfl dX11_apart_68 ?_
      refine lv_iload hx hb dX11_apart_71 (lv_at hl 3 rfl) ?_
      have g0 := ql_in (ql_gt hf)
      have hf := ql_gx hf
      refine va_iald (f := (z.1 28)) hx hb hK.1 hP 20 0 rfl rfl g0 dX11_apart_73 ?_
      refine lv_i2l hx hb dX11_apart_74 rfl ?_
      refine lv_lmul hx hb dX11_apart_75 ?_
      refine lv_ladd hx hb dX11_apart_76 ?_
      refine lv_lstore (lv' := [(4, .long (x4 + (x6 * ((z.1 28) x8.toNatClampNeg).toInt64))), (0, .ref h), (6, .long x6), (8, .int x8)]) hx hb dX11_apart_77 hl (by decide) rfl (fun ls hl => ?_)
      refine lv_lload hx hb dX11_apart_79 (lv_at hl 2 rfl) ?_
      refine lv_ldc2 hx hb hown fl267 dX11_apart_81 ?_
      refine lv_lmul hx hb dX11_apart_84 ?_
      refine lv_lstore (lv' := [(6, .long (x6 * 12)), (4, .long (x4 + (x6 * ((z.1 28) x8.toNatClampNeg).toInt64))), (0, .ref h), (8, .int x8)]) hx hb dX11_apart_85 hl (by decide) rfl (fun ls hl => ?_)
      refine lv_aload_n hx hb dX11_apart_87 rfl (lv_at hl 2 rfl) ?_
      refine va_get (D := (dC, dI)) (ci := 11) (v := .ref (ad 27)) (C := RX11) (T := TX11) (N := 41) hx hb hts iw_X11_apart_X11 hown hK.1 hP 0 rfl rfl 27 (by decide) fl65 (fun _ h9 => h9) rfl dX11_apart_88 ?_
      refine lv_iload hx hb dX11_apart_91 (lv_at hl 3 rfl) ?_
      have g0 := ql_in (ql_gt hf)
      have hf := ql_gx hf
      refine va_iald (f := (z.1 27)) hx hb hK.1 hP 19 0 rfl rfl g0 dX11_apart_93 ?_
      refine lv_istore (lv' := [(8, .int ((z.1 27) x8.toNatClampNeg)), (6, .long (x6 * 12)), (4, .long (x4 + (x6 * ((z.1 28) x8.toNatClampNeg).toInt64))), (0, .ref h)]) hx hb dX11_apart_94 hl (by decide) rfl (fun ls hl => ?_)
      refine lv_goto (tgt := 58) hx hb dX11_apart_96 (by decide) ?_
      exact ih _ _ _ _ hf _ _ _ hP hD hS (lv_sub hl [3, 2, 1, 0] rfl)
set_option maxHeartbeats 4000000 in
set_option maxRecDepth 100000 in
theorem w_X11_apart_0 {p : Program} {l : Launch} {e : Env} {s : State} {m : MethodId} {args : Array Value} {below : List Frame} {meth : Method} {c : Code} {dC : Nat → ClassId} {dI : Nat → Nat → Nat} {A : Nat → Prop} {h : Nat} {ad : Nat → Nat} {cI cZ cJ : ClassId} {res : Int64 × ql_Z} (C0 : ql_C p s m args meth c cX11_apart 9 (some .long) wsX11_apart RX11 (dC, dI) [(cI, .int), (cZ, .boolean), (cJ, .long)] A) (N : Nat) : ∀ (z : ql_Z) (x1 : Int32) (x2 : Int32), f_X11_apart_0 N z x1 x2 = some res → ∀ (H : Heap) (locs : List Loc) (ls : Array Slot), va_P (dC, dI) vwCl ((ql_mw h ad cI cZ cJ) z) H → va_D A ((ql_mw h ad cI cZ cJ) z) → va_S A s.heap H locs → lv_has ls 9 [(0, .ref h), (1, .int x1), (2, .int x2)] → W p l e rm_X11_apart s m args below meth c H locs 0 0 (ql_Ql below (dC, dI) (ql_mw h ad cI cZ cJ) A args s res) (F0 m 0 ls []) := by
  have C0q := C0
  obtain ⟨hx, hb, hr, hml, hown, hts, hlocks, hK, hA⟩ := C0q
  have fl71 := hts (Cond.fieldLink RX11 71 "TestedLoopsModel" "level" "[I") (by decide +kernel)
  have fl261 := hts (Cond.constantLong RX11 261 (-1)) (by decide +kernel)
  intro z x1 x2 hf H locs ls hP hD hS hl
  unfold f_X11_apart_0 at hf
  refine lv_iload_n hx hb dX11_apart_0 rfl (lv_at hl 1 rfl) ?_
  refine lv_iload_n hx hb dX11_apart_1 rfl (lv_at hl 2 rfl) ?_
  obtain ⟨u3, hu3, hf⟩ := ql_bd hf
  refine ql_callRSi (As := [.int x1, .int x2]) (rest := []) C0 (c_X11_arePrograms l dC dI N x1 x2 u3 hu3) (va_cwS 2 hts gX11_apart_X11_arePrograms rfl rfl rfl qd_X11_arePrograms ⟨Nat.le_of_ble_eq_true rfl, Nat.le_of_ble_eq_true rfl⟩) (hK.sub [] rfl) ql_nil hS hl.1 rfl rfl (Nat.le_of_ble_eq_true rfl) dX11_apart_2 (fun H1 locs hk hS => ?_)
  have hP := ql_keep hP hk
  refine lv_if_ne (tgt := 12) hx hb dX11_apart_5 (by decide) (fun c4 => ?_) (fun c4 => ?_)
  · have hf := (if_neg c4).symm.trans hf
    refine lv_aload_n hx hb dX11_apart_12 rfl (lv_at hl 0 rfl) ?_
    refine lv_iload_n hx hb dX11_apart_13 rfl (lv_at hl 1 rfl) ?_
    refine lv_iload_n hx hb dX11_apart_14 rfl (lv_at hl 2 rfl) ?_
    refine lv_iconst (v := 0) hx hb dX11_apart_15 (by decide) ?_
    obtain ⟨u5, hu5, hf⟩ := ql_bd hf
    refine ql_callVi (As := [.int x1, .int x2, .int 0]) (rest := []) C0 (c_X11_parts l dC dI h ad cI cZ cJ N z x1 x2 0 u5 hu5) (cwV 3 hts gX11_apart_X11_parts rfl rfl rfl qv_X11_parts ⟨Nat.le_of_ble_eq_true rfl, Nat.le_of_ble_eq_true rfl⟩) (va_recv hK.1 hP (ci := 11) (q0 := 0) rfl rfl) hP hD hS hl.1 rfl rfl (Nat.le_of_ble_eq_true rfl) dX11_apart_16 (fun H locs hP hD hS => ?_)
    refine lv_istore_n (lv' := [(3, .int u5.1), (0, .ref h), (1, .int x1), (2, .int x2)]) hx hb dX11_apart_19 rfl hl (by decide) rfl (fun ls hl => ?_)
    refine lv_iload_n hx hb dX11_apart_20 rfl (lv_at hl 0 rfl) ?_
    refine lv_if_lt (tgt := 35) hx hb dX11_apart_21 (by decide) (fun c6 => ?_) (fun c6 => ?_)
    · have hf := (if_pos c6).symm.trans hf
      exact w_X11_apart_35 C0 N _ _ hf _ _ _ hP hD hS (lv_sub hl [1, 0] rfl)
    · have hf := (if_neg c6).symm.trans hf
      refine lv_aload_n hx hb dX11_apart_24 rfl (lv_at hl 1 rfl) ?_
      refine va_get (D := (dC, dI)) (ci := 11) (v := .ref (ad 29)) (C := RX11) (T := TX11) (N := 41) hx hb hts iw_X11_apart_X11 hown hK.1 hP 0 rfl rfl 29 (by decide) fl71 (fun _ h9 => h9) rfl dX11_apart_25 ?_
      refine lv_iload_n hx hb dX11_apart_28 rfl (lv_at hl 0 rfl) ?_
      have g0 := ql_in (ql_gt hf)
      have hf := ql_gx hf
      refine va_iald (f := (u5.2.1 29)) hx hb hK.1 hP 21 0 rfl rfl g0 dX11_apart_29 ?_
      refine lv_bipush (v := 16) hx hb dX11_apart_30 (by decide) ?_
      refine lv_icmp_le (tgt := 49) hx hb dX11_apart_32 (by decide) (fun c7 => ?_) (fun c7 => ?_)
      · have hf := (if_pos c7).symm.trans hf
        refine lv_lconst (v := 0) hx hb dX11_apart_49 (by decide) ?_
        refine lv_lstore (lv' := [(4, .long 0), (3, .int u5.1), (0, .ref h), (1, .int x1), (2, .int x2)]) hx hb dX11_apart_50 hl (by decide) rfl (fun ls hl => ?_)
        refine lv_lconst (v := 1) hx hb dX11_apart_52 (by decide) ?_
        refine lv_lstore (lv' := [(6, .long 1), (4, .long 0), (3, .int u5.1), (0, .ref h), (1, .int x1), (2, .int x2)]) hx hb dX11_apart_53 hl (by decide) rfl (fun ls hl => ?_)
        refine lv_iload_n hx hb dX11_apart_55 rfl (lv_at hl 2 rfl) ?_
        refine lv_istore (lv' := [(8, .int u5.1), (6, .long 1), (4, .long 0), (3, .int u5.1), (0, .ref h), (1, .int x1), (2, .int x2)]) hx hb dX11_apart_56 hl (by decide) rfl (fun ls hl => ?_)
        exact w_X11_apart_58 C0 N N _ _ _ _ hf _ _ _ hP hD hS (lv_sub hl [4, 2, 1, 0] rfl)
      · have hf := (if_neg c7).symm.trans hf
        exact w_X11_apart_35 C0 N _ _ hf _ _ _ hP hD hS (lv_sub hl [1, 0] rfl)
  · have hf := (if_pos c4).symm.trans hf
    refine lv_ldc2 hx hb hown fl261 dX11_apart_8 ?_
    exact ql_lret C0 hf hP hD hS dX11_apart_11
set_option maxRecDepth 100000 in
theorem c_X11_apart (l : Launch) (dC : Nat → ClassId) (dI : Nat → Nat → Nat) (h : Nat) (ad : Nat → Nat) (cI cZ cJ : ClassId) (N : Nat) (z : ql_Z) (x1 : Int32) (x2 : Int32) (res : Int64 × ql_Z) (hf : f_X11_apart N z x1 x2 = some res) : ql_Ml l yX11_apart wsX11_apart rm_X11_apart (dC, dI) [(cI, .int), (cZ, .boolean), (cJ, .long)] (ql_mw h ad cI cZ cJ) [.ref h, .int x1, .int x2] z res :=
  ql_start_l (by decide) rfl (Nat.le_of_ble_eq_true rfl) (fun p e s m below meth c A ls C0 hl hP hD hS => w_X11_apart_0 C0 N z x1 x2 hf s.heap [] ls hP hD hS (lv_sub (show lv_has ls 9 [(0, .ref h), (1, .int x1), (2, .int x2)] from hl) [0, 1, 2] rfl))
/-! ===== TestedLoopsModel.far(II)I ===== -/
abbrev rm_X11_far : Room := { frames := 3, cells := 0, slots := 0, locals := 66 }
theorem iw_X11_far_X11 : ∀ w ∈ wsX110, w ∈ wsX11_far := fun w h => List.mem_cons_of_mem _ (List.mem_append_right _ h)
theorem qv_X11_far : yX11_far.cls = RX11 ∧ yX11_far.cls ≠ "java/lang/invoke/MethodHandle" ∧ yX11_far.cls ≠ "java/lang/invoke/VarHandle" ∧ (parseMethodDescriptor yX11_far.desc).map (fun d => d.parameters.length) = some 2 := by decide +kernel
def f_X11_far_0 (N : Nat) (z : ql_Z) (x1 : Int32) (x2 : Int32) : Option (Int32 × ql_Z) := (f_X11_arePrograms N x1 x2).bind fun u1 => if u1 = 0 then some ((-1), z) else (f_X11_parts N z x1 x2 0).bind fun u3 => if 0 ≤ u3.1 then if ql_ib u3.1 324 = true then some (((u3.2.1 29) u3.1.toNatClampNeg), u3.2) else none else some ((-9), u3.2)
def f_X11_far (N : Nat) (z : ql_Z) (x1 : Int32) (x2 : Int32) : Option (Int32 × ql_Z) := f_X11_far_0 N z x1 x2
set_option maxHeartbeats 4000000 in
set_option maxRecDepth 100000 in
theorem w_X11_far_0 {p : Program} {l : Launch} {e : Env} {s : State} {m : MethodId} {args : Array Value} {below : List Frame} {meth : Method} {c : Code} {dC : Nat → ClassId} {dI : Nat → Nat → Nat} {A : Nat → Prop} {h : Nat} {ad : Nat → Nat} {cI cZ cJ : ClassId} {res : Int32 × ql_Z} (C0 : ql_C p s m args meth c cX11_far 4 (some .int) wsX11_far RX11 (dC, dI) [(cI, .int), (cZ, .boolean), (cJ, .long)] A) (N : Nat) : ∀ (z : ql_Z) (x1 : Int32) (x2 : Int32), f_X11_far_0 N z x1 x2 = some res → ∀ (H : Heap) (locs : List Loc) (ls : Array Slot), va_P (dC, dI) vwCl ((ql_mw h ad cI cZ cJ) z) H → va_D A ((ql_mw h ad cI cZ cJ) z) → va_S A s.heap H locs → lv_has ls 4 [(0, .ref h), (1, .int x1), (2, .int x2)] → W p l e rm_X11_far s m args below meth c H locs 0 0 (ql_Qi below (dC, dI) (ql_mw h ad cI cZ cJ) A args s res) (F0 m 0 ls []) := by
  have C0q := C0
  obtain ⟨hx, hb, hr, hml, hown, hts, hlocks, hK, hA⟩ := C0q
  have fl71 := hts (Cond.fieldLink RX11 71 "TestedLoopsModel" "level" "[I") (by decide +kernel)
  intro z x1 x2 hf H locs ls hP hD hS hl
  unfold f_X11_far_0 at hf
  refine lv_iload_n hx hb dX11_far_0 rfl (lv_at hl 1 rfl) ?_
  refine lv_iload_n hx hb dX11_far_1 rfl (lv_at hl 2 rfl) ?_
  obtain ⟨u1, hu1, hf⟩ := ql_bd hf
  refine ql_callRSi (As := [.int x1, .int x2]) (rest := []) C0 (c_X11_arePrograms l dC dI N x1 x2 u1 hu1) (va_cwS 2 hts gX11_far_X11_arePrograms rfl rfl rfl qd_X11_arePrograms ⟨Nat.le_of_ble_eq_true rfl, Nat.le_of_ble_eq_true rfl⟩) (hK.sub [] rfl) ql_nil hS hl.1 rfl rfl (Nat.le_of_ble_eq_true rfl) dX11_far_2 (fun H1 locs hk hS => ?_)
  have hP := ql_keep hP hk
  refine lv_if_ne (tgt := 10) hx hb dX11_far_5 (by decide) (fun c2 => ?_) (fun c2 => ?_)
  · have hf := (if_neg c2).symm.trans hf
    refine lv_aload_n hx hb dX11_far_10 rfl (lv_at hl 0 rfl) ?_
    refine lv_iload_n hx hb dX11_far_11 rfl (lv_at hl 1 rfl) ?_
    refine lv_iload_n hx hb dX11_far_12 rfl (lv_at hl 2 rfl) ?_
    refine lv_iconst (v := 0) hx hb dX11_far_13 (by decide) ?_
    obtain ⟨u3, hu3, hf⟩ := ql_bd hf
    refine ql_callVi (As := [.int x1, .int x2, .int 0]) (rest := []) C0 (c_X11_parts l dC dI h ad cI cZ cJ N z x1 x2 0 u3 hu3) (cwV 3 hts gX11_far_X11_parts rfl rfl rfl qv_X11_parts ⟨Nat.le_of_ble_eq_true rfl, Nat.le_of_ble_eq_true rfl⟩) (va_recv hK.1 hP (ci := 11) (q0 := 0) rfl rfl) hP hD hS hl.1 rfl rfl (Nat.le_of_ble_eq_true rfl) dX11_far_14 (fun H locs hP hD hS => ?_)
    refine lv_istore_n (lv' := [(3, .int u3.1), (0, .ref h), (1, .int x1), (2, .int x2)]) hx hb dX11_far_17 rfl hl (by decide) rfl (fun ls hl => ?_)
    refine lv_iload_n hx hb dX11_far_18 rfl (lv_at hl 0 rfl) ?_
    refine lv_if_ge (tgt := 27) hx hb dX11_far_19 (by decide) (fun c4 => ?_) (fun c4 => ?_)
    · have hf := (if_pos c4).symm.trans hf
      refine lv_aload_n hx hb dX11_far_27 rfl (lv_at hl 1 rfl) ?_
      refine va_get (D := (dC, dI)) (ci := 11) (v := .ref (ad 29)) (C := RX11) (T := TX11) (N := 41) hx hb hts iw_X11_far_X11 hown hK.1 hP 0 rfl rfl 29 (by decide) fl71 (fun _ h9 => h9) rfl dX11_far_28 ?_
      refine lv_iload_n hx hb dX11_far_31 rfl (lv_at hl 0 rfl) ?_
      have g0 := ql_in (ql_gt hf)
      have hf := ql_gx hf
      refine va_iald (f := (u3.2.1 29)) hx hb hK.1 hP 21 0 rfl rfl g0 dX11_far_32 ?_
      exact ql_iret C0 hf hP hD hS dX11_far_33
    · have hf := (if_neg c4).symm.trans hf
      refine lv_bipush (v := (-9)) hx hb dX11_far_22 (by decide) ?_
      refine lv_goto (tgt := 33) hx hb dX11_far_24 (by decide) ?_
      exact ql_iret C0 hf hP hD hS dX11_far_33
  · have hf := (if_pos c2).symm.trans hf
    refine lv_iconst (v := (-1)) hx hb dX11_far_8 (by decide) ?_
    exact ql_iret C0 hf hP hD hS dX11_far_9
set_option maxRecDepth 100000 in
theorem c_X11_far (l : Launch) (dC : Nat → ClassId) (dI : Nat → Nat → Nat) (h : Nat) (ad : Nat → Nat) (cI cZ cJ : ClassId) (N : Nat) (z : ql_Z) (x1 : Int32) (x2 : Int32) (res : Int32 × ql_Z) (hf : f_X11_far N z x1 x2 = some res) : ql_Mi l yX11_far wsX11_far rm_X11_far (dC, dI) [(cI, .int), (cZ, .boolean), (cJ, .long)] (ql_mw h ad cI cZ cJ) [.ref h, .int x1, .int x2] z res :=
  ql_start_i (by decide) rfl (Nat.le_of_ble_eq_true rfl) (fun p e s m below meth c A ls C0 hl hP hD hS => w_X11_far_0 C0 N z x1 x2 hf s.heap [] ls hP hD hS (lv_sub (show lv_has ls 4 [(0, .ref h), (1, .int x1), (2, .int x2)] from hl) [0, 1, 2] rfl))
/-! ===== TestedLoopsModel.within(II)I ===== -/
abbrev rm_X11_within : Room := { frames := 3, cells := 0, slots := 0, locals := 66 }
theorem iw_X11_within_X11 : ∀ w ∈ wsX110, w ∈ wsX11_within := fun w h => List.mem_cons_of_mem _ (List.mem_append_right _ h)
theorem qv_X11_within : yX11_within.cls = RX11 ∧ yX11_within.cls ≠ "java/lang/invoke/MethodHandle" ∧ yX11_within.cls ≠ "java/lang/invoke/VarHandle" ∧ (parseMethodDescriptor yX11_within.desc).map (fun d => d.parameters.length) = some 2 := by decide +kernel
def f_X11_within_0 (N : Nat) (z : ql_Z) (x1 : Int32) (x2 : Int32) : Option (Int32 × ql_Z) := (f_X11_arePrograms N x1 x2).bind fun u1 => if u1 = 0 then some ((-1), z) else (f_X11_parts N z x1 x2 1).bind fun u3 => if 0 ≤ u3.1 then some (0, u3.2) else some (1, u3.2)
def f_X11_within (N : Nat) (z : ql_Z) (x1 : Int32) (x2 : Int32) : Option (Int32 × ql_Z) := f_X11_within_0 N z x1 x2
set_option maxHeartbeats 4000000 in
set_option maxRecDepth 100000 in
theorem w_X11_within_0 {p : Program} {l : Launch} {e : Env} {s : State} {m : MethodId} {args : Array Value} {below : List Frame} {meth : Method} {c : Code} {dC : Nat → ClassId} {dI : Nat → Nat → Nat} {A : Nat → Prop} {h : Nat} {ad : Nat → Nat} {cI cZ cJ : ClassId} {res : Int32 × ql_Z} (C0 : ql_C p s m args meth c cX11_within 3 (some .int) wsX11_within RX11 (dC, dI) [(cI, .int), (cZ, .boolean), (cJ, .long)] A) (N : Nat) : ∀ (z : ql_Z) (x1 : Int32) (x2 : Int32), f_X11_within_0 N z x1 x2 = some res → ∀ (H : Heap) (locs : List Loc) (ls : Array Slot), va_P (dC, dI) vwCl ((ql_mw h ad cI cZ cJ) z) H → va_D A ((ql_mw h ad cI cZ cJ) z) → va_S A s.heap H locs → lv_has ls 3 [(0, .ref h), (1, .int x1), (2, .int x2)] → W p l e rm_X11_within s m args below meth c H locs 0 0 (ql_Qi below (dC, dI) (ql_mw h ad cI cZ cJ) A args s res) (F0 m 0 ls []) := by
  have C0q := C0
  obtain ⟨hx, hb, hr, hml, hown, hts, hlocks, hK, hA⟩ := C0q
  intro z x1 x2 hf H locs ls hP hD hS hl
  unfold f_X11_within_0 at hf
  refine lv_iload_n hx hb dX11_within_0 rfl (lv_at hl 1 rfl) ?_
  refine lv_iload_n hx hb dX11_within_1 rfl (lv_at hl 2 rfl) ?_
  obtain ⟨u1, hu1, hf⟩ := ql_bd hf
  refine ql_callRSi (As := [.int x1, .int x2]) (rest := []) C0 (c_X11_arePrograms l dC dI N x1 x2 u1 hu1) (va_cwS 2 hts gX11_within_X11_arePrograms rfl rfl rfl qd_X11_arePrograms ⟨Nat.le_of_ble_eq_true rfl, Nat.le_of_ble_eq_true rfl⟩) (hK.sub [] rfl) ql_nil hS hl.1 rfl rfl (Nat.le_of_ble_eq_true rfl) dX11_within_2 (fun H1 locs hk hS => ?_)
  have hP := ql_keep hP hk
  refine lv_if_ne (tgt := 12) hx hb dX11_within_5 (by decide) (fun c2 => ?_) (fun c2 => ?_)
  · have hf := (if_neg c2).symm.trans hf
    refine lv_aload_n hx hb dX11_within_12 rfl (lv_at hl 0 rfl) ?_
    refine lv_iload_n hx hb dX11_within_13 rfl (lv_at hl 1 rfl) ?_
    refine lv_iload_n hx hb dX11_within_14 rfl (lv_at hl 2 rfl) ?_
    refine lv_iconst (v := 1) hx hb dX11_within_15 (by decide) ?_
    obtain ⟨u3, hu3, hf⟩ := ql_bd hf
    refine ql_callVi (As := [.int x1, .int x2, .int 1]) (rest := []) C0 (c_X11_parts l dC dI h ad cI cZ cJ N z x1 x2 1 u3 hu3) (cwV 3 hts gX11_within_X11_parts rfl rfl rfl qv_X11_parts ⟨Nat.le_of_ble_eq_true rfl, Nat.le_of_ble_eq_true rfl⟩) (va_recv hK.1 hP (ci := 11) (q0 := 0) rfl rfl) hP hD hS hl.1 rfl rfl (Nat.le_of_ble_eq_true rfl) dX11_within_16 (fun H locs hP hD hS => ?_)
    refine lv_if_ge (tgt := 26) hx hb dX11_within_19 (by decide) (fun c4 => ?_) (fun c4 => ?_)
    · have hf := (if_pos c4).symm.trans hf
      refine lv_iconst (v := 0) hx hb dX11_within_26 (by decide) ?_
      exact ql_iret C0 hf hP hD hS dX11_within_27
    · have hf := (if_neg c4).symm.trans hf
      refine lv_iconst (v := 1) hx hb dX11_within_22 (by decide) ?_
      refine lv_goto (tgt := 27) hx hb dX11_within_23 (by decide) ?_
      exact ql_iret C0 hf hP hD hS dX11_within_27
  · have hf := (if_pos c2).symm.trans hf
    refine lv_iconst (v := (-1)) hx hb dX11_within_8 (by decide) ?_
    refine lv_goto (tgt := 27) hx hb dX11_within_9 (by decide) ?_
    exact ql_iret C0 hf hP hD hS dX11_within_27
set_option maxRecDepth 100000 in
theorem c_X11_within (l : Launch) (dC : Nat → ClassId) (dI : Nat → Nat → Nat) (h : Nat) (ad : Nat → Nat) (cI cZ cJ : ClassId) (N : Nat) (z : ql_Z) (x1 : Int32) (x2 : Int32) (res : Int32 × ql_Z) (hf : f_X11_within N z x1 x2 = some res) : ql_Mi l yX11_within wsX11_within rm_X11_within (dC, dI) [(cI, .int), (cZ, .boolean), (cJ, .long)] (ql_mw h ad cI cZ cJ) [.ref h, .int x1, .int x2] z res :=
  ql_start_i (by decide) rfl (Nat.le_of_ble_eq_true rfl) (fun p e s m below meth c A ls C0 hl hP hD hS => w_X11_within_0 C0 N z x1 x2 hf s.heap [] ls hP hD hS (lv_sub (show lv_has ls 3 [(0, .ref h), (1, .int x1), (2, .int x2)] from hl) [0, 1, 2] rfl))
