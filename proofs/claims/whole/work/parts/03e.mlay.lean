/-! ===== TestedLoopsModel.moves(I)V ===== -/
abbrev rm_X11_moves : Room := { frames := 0, cells := 0, slots := 0, locals := 0 }
theorem iw_X11_moves_X11 : ∀ w ∈ wsX110, w ∈ wsX11_moves := fun w h => List.mem_cons_of_mem _ (List.mem_append_right _ h)
theorem qv_X11_moves : yX11_moves.cls = RX11 ∧ yX11_moves.cls ≠ "java/lang/invoke/MethodHandle" ∧ yX11_moves.cls ≠ "java/lang/invoke/VarHandle" ∧ (parseMethodDescriptor yX11_moves.desc).map (fun d => d.parameters.length) = some 1 := by decide +kernel
def f_X11_moves_137 (N : Nat) : Nat → ql_Z → Int32 → Int32 → Option (ql_Z)
  | 0, _, _, _ => none
  | n + 1, z, x1, x2 => if 200 ≤ x2 then if ql_ib x1 5 = true then if ql_ib x1 5 = true then if ql_ib x1 5 = true then some ((ql_up (ql_up (ql_up z.1 6 (upd (z.1 6) x1.toNatClampNeg ((z.1 6) 4))) 9 (upd (z.1 9) x1.toNatClampNeg ((z.1 9) 4))) 12 (upd (z.1 12) x1.toNatClampNeg ((z.1 12) 4))), z.2) else none else none else none else if ql_ib (800 + x2) 1000 = true then if ql_ib ((200 * x1) + x2) 1000 = true then if ql_ib (800 + x2) 1000 = true then if ql_ib ((200 * x1) + x2) 1000 = true then f_X11_moves_137 N n ((ql_up (ql_up z.1 10 (upd (z.1 10) (((200 * x1) + x2).toNatClampNeg) ((z.1 10) (800 + x2).toNatClampNeg))) 11 (upd (z.1 11) (((200 * x1) + x2).toNatClampNeg) ((z.1 11) (800 + x2).toNatClampNeg))), z.2) x1 (x2 + 1) else none else none else none else none
def f_X11_moves_83 (N : Nat) : Nat → ql_Z → Int32 → Int32 → Option (ql_Z)
  | 0, _, _, _ => none
  | n + 1, z, x1, x2 => if 17 ≤ x2 then f_X11_moves_137 N N z x1 0 else if ql_ib (68 + x2) 85 = true then if ql_ib ((17 * x1) + x2) 85 = true then if ql_ib (68 + x2) 85 = true then if ql_ib ((17 * x1) + x2) 85 = true then f_X11_moves_83 N n ((ql_up (ql_up z.1 7 (upd (z.1 7) (((17 * x1) + x2).toNatClampNeg) ((z.1 7) (68 + x2).toNatClampNeg))) 8 (upd (z.1 8) (((17 * x1) + x2).toNatClampNeg) ((z.1 8) (68 + x2).toNatClampNeg))), z.2) x1 (x2 + 1) else none else none else none else none
def f_X11_moves_2 (N : Nat) : Nat → ql_Z → Int32 → Int32 → Option (ql_Z)
  | 0, _, _, _ => none
  | n + 1, z, x1, x2 => if 400 ≤ x2 then f_X11_moves_83 N N z x1 0 else if ql_ib (1600 + x2) 2000 = true then if ql_ib ((400 * x1) + x2) 2000 = true then if ql_ib (1600 + x2) 2000 = true then if ql_ib ((400 * x1) + x2) 2000 = true then if ql_ib (1600 + x2) 2000 = true then if ql_ib ((400 * x1) + x2) 2000 = true then f_X11_moves_2 N n ((ql_up (ql_up (ql_up z.1 3 (upd (z.1 3) (((400 * x1) + x2).toNatClampNeg) ((z.1 3) (1600 + x2).toNatClampNeg))) 4 (upd (z.1 4) (((400 * x1) + x2).toNatClampNeg) ((z.1 4) (1600 + x2).toNatClampNeg))) 5 (upd (z.1 5) (((400 * x1) + x2).toNatClampNeg) ((z.1 5) (1600 + x2).toNatClampNeg))), z.2) x1 (x2 + 1) else none else none else none else none else none else none
def f_X11_moves_0 (N : Nat) (z : ql_Z) (x1 : Int32) : Option (ql_Z) := f_X11_moves_2 N N z x1 0
def f_X11_moves (N : Nat) (z : ql_Z) (x1 : Int32) : Option (ql_Z) := f_X11_moves_0 N z x1
set_option maxHeartbeats 4000000 in
set_option maxRecDepth 100000 in
theorem w_X11_moves_137 {p : Program} {l : Launch} {e : Env} {s : State} {m : MethodId} {args : Array Value} {below : List Frame} {meth : Method} {c : Code} {dC : Nat → ClassId} {dI : Nat → Nat → Nat} {A : Nat → Prop} {h : Nat} {ad : Nat → Nat} {cI cZ cJ : ClassId} {res : ql_Z} (C0 : ql_C p s m args meth c cX11_moves 3 none wsX11_moves RX11 (dC, dI) [(cI, .int), (cZ, .boolean), (cJ, .long)] A) (N : Nat) : ∀ (n : Nat), ∀ (z : ql_Z) (x1 : Int32) (x2 : Int32), f_X11_moves_137 N n z x1 x2 = some res → ∀ (H : Heap) (locs : List Loc) (ls : Array Slot), va_P (dC, dI) vwCl ((ql_mw h ad cI cZ cJ) z) H → va_D A ((ql_mw h ad cI cZ cJ) z) → va_S A s.heap H locs → lv_has ls 3 [(0, .ref h), (1, .int x1), (2, .int x2)] → W p l e rm_X11_moves s m args below meth c H locs 0 0 (ql_Qv below (dC, dI) (ql_mw h ad cI cZ cJ) A args s res) (F0 m 137 ls []) := by
  have C0q := C0
  obtain ⟨hx, hb, hr, hml, hown, hts, hlocks, hK, hA⟩ := C0q
  have fl22 := hts (Cond.fieldLink RX11 22 "TestedLoopsModel" "steps" "[I") (by decide +kernel)
  have fl31 := hts (Cond.fieldLink RX11 31 "TestedLoopsModel" "many" "[I") (by decide +kernel)
  have fl40 := hts (Cond.fieldLink RX11 40 "TestedLoopsModel" "statements" "[I") (by decide +kernel)
  have fl34 := hts (Cond.fieldLink RX11 34 "TestedLoopsModel" "kinds" "[I") (by decide +kernel)
  have fl37 := hts (Cond.fieldLink RX11 37 "TestedLoopsModel" "lets" "[I") (by decide +kernel)
  intro n
  induction n with
  | zero =>
    intro z x1 x2 hf
    rw [f_X11_moves_137] at hf
    cases hf
  | succ n ih =>
    intro z x1 x2 hf H locs ls hP hD hS hl
    rw [f_X11_moves_137] at hf
    refine lv_iload_n hx hb dX11_moves_137 rfl (lv_at hl 2 rfl) ?_
    refine lv_sipush (v := 200) hx hb dX11_moves_138 (by decide) ?_
    refine lv_icmp_ge (tgt := 194) hx hb dX11_moves_141 (by decide) (fun c1 => ?_) (fun c1 => ?_)
    · have hf := (if_pos c1).symm.trans hf
      refine lv_aload_n hx hb dX11_moves_194 rfl (lv_at hl 0 rfl) ?_
      refine va_get (D := (dC, dI)) (ci := 11) (v := .ref (ad 6)) (C := RX11) (T := TX11) (N := 41) hx hb hts iw_X11_moves_X11 hown hK.1 hP 0 rfl rfl 6 (by decide) fl22 (fun _ h9 => h9) rfl dX11_moves_195 ?_
      refine lv_iload_n hx hb dX11_moves_198 rfl (lv_at hl 1 rfl) ?_
      refine lv_aload_n hx hb dX11_moves_199 rfl (lv_at hl 0 rfl) ?_
      refine va_get (D := (dC, dI)) (ci := 11) (v := .ref (ad 6)) (C := RX11) (T := TX11) (N := 41) hx hb hts iw_X11_moves_X11 hown hK.1 hP 0 rfl rfl 6 (by decide) fl22 (fun _ h9 => h9) rfl dX11_moves_200 ?_
      refine lv_iconst (v := 4) hx hb dX11_moves_203 (by decide) ?_
      refine va_iald (f := (z.1 6)) hx hb hK.1 hP 5 0 rfl rfl (ql_in (i := 4) (n := 5) (by decide)) dX11_moves_204 ?_
      refine ql_tv (y := (z.1 6) 4) (congrArg (z.1 6) (by decide)) ?_
      have g0 := ql_in (ql_gt hf)
      have hf := ql_gx hf
      refine va_iast (f := (z.1 6)) hx hb hK.1 hP hD hS 5 0 rfl rfl g0 dX11_moves_205 (fun H locs hP hD hS => ?_)
      refine lv_aload_n hx hb dX11_moves_206 rfl (lv_at hl 0 rfl) ?_
      refine va_get (D := (dC, dI)) (ci := 11) (v := .ref (ad 9)) (C := RX11) (T := TX11) (N := 41) hx hb hts iw_X11_moves_X11 hown hK.1 hP 0 rfl rfl 9 (by decide) fl31 (fun _ h9 => h9) rfl dX11_moves_207 ?_
      refine lv_iload_n hx hb dX11_moves_210 rfl (lv_at hl 1 rfl) ?_
      refine lv_aload_n hx hb dX11_moves_211 rfl (lv_at hl 0 rfl) ?_
      refine va_get (D := (dC, dI)) (ci := 11) (v := .ref (ad 9)) (C := RX11) (T := TX11) (N := 41) hx hb hts iw_X11_moves_X11 hown hK.1 hP 0 rfl rfl 9 (by decide) fl31 (fun _ h9 => h9) rfl dX11_moves_212 ?_
      refine lv_iconst (v := 4) hx hb dX11_moves_215 (by decide) ?_
      refine va_iald (f := (z.1 9)) hx hb hK.1 hP 8 0 rfl rfl (ql_in (i := 4) (n := 5) (by decide)) dX11_moves_216 ?_
      refine ql_tv (y := (z.1 9) 4) (congrArg (z.1 9) (by decide)) ?_
      have g0 := ql_in (ql_gt hf)
      have hf := ql_gx hf
      refine va_iast (f := (z.1 9)) hx hb hK.1 hP hD hS 8 0 rfl rfl g0 dX11_moves_217 (fun H locs hP hD hS => ?_)
      refine lv_aload_n hx hb dX11_moves_218 rfl (lv_at hl 0 rfl) ?_
      refine va_get (D := (dC, dI)) (ci := 11) (v := .ref (ad 12)) (C := RX11) (T := TX11) (N := 41) hx hb hts iw_X11_moves_X11 hown hK.1 hP 0 rfl rfl 12 (by decide) fl40 (fun _ h9 => h9) rfl dX11_moves_219 ?_
      refine lv_iload_n hx hb dX11_moves_222 rfl (lv_at hl 1 rfl) ?_
      refine lv_aload_n hx hb dX11_moves_223 rfl (lv_at hl 0 rfl) ?_
      refine va_get (D := (dC, dI)) (ci := 11) (v := .ref (ad 12)) (C := RX11) (T := TX11) (N := 41) hx hb hts iw_X11_moves_X11 hown hK.1 hP 0 rfl rfl 12 (by decide) fl40 (fun _ h9 => h9) rfl dX11_moves_224 ?_
      refine lv_iconst (v := 4) hx hb dX11_moves_227 (by decide) ?_
      refine va_iald (f := (z.1 12)) hx hb hK.1 hP 11 0 rfl rfl (ql_in (i := 4) (n := 5) (by decide)) dX11_moves_228 ?_
      refine ql_tv (y := (z.1 12) 4) (congrArg (z.1 12) (by decide)) ?_
      have g0 := ql_in (ql_gt hf)
      have hf := ql_gx hf
      refine va_iast (f := (z.1 12)) hx hb hK.1 hP hD hS 11 0 rfl rfl g0 dX11_moves_229 (fun H locs hP hD hS => ?_)
      exact ql_vret C0 hf hP hD hS dX11_moves_230
    · have hf := (if_neg c1).symm.trans hf
      refine lv_aload_n hx hb dX11_moves_144 rfl (lv_at hl 0 rfl) ?_
      refine va_get (D := (dC, dI)) (ci := 11) (v := .ref (ad 10)) (C := RX11) (T := TX11) (N := 41) hx hb hts iw_X11_moves_X11 hown hK.1 hP 0 rfl rfl 10 (by decide) fl34 (fun _ h9 => h9) rfl dX11_moves_145 ?_
      refine lv_sipush (v := 200) hx hb dX11_moves_148 (by decide) ?_
      refine lv_iload_n hx hb dX11_moves_151 rfl (lv_at hl 1 rfl) ?_
      refine lv_imul hx hb dX11_moves_152 ?_
      refine lv_iload_n hx hb dX11_moves_153 rfl (lv_at hl 2 rfl) ?_
      refine lv_iadd hx hb dX11_moves_154 ?_
      refine lv_aload_n hx hb dX11_moves_155 rfl (lv_at hl 0 rfl) ?_
      refine va_get (D := (dC, dI)) (ci := 11) (v := .ref (ad 10)) (C := RX11) (T := TX11) (N := 41) hx hb hts iw_X11_moves_X11 hown hK.1 hP 0 rfl rfl 10 (by decide) fl34 (fun _ h9 => h9) rfl dX11_moves_156 ?_
      refine lv_sipush (v := 800) hx hb dX11_moves_159 (by decide) ?_
      refine lv_iload_n hx hb dX11_moves_162 rfl (lv_at hl 2 rfl) ?_
      refine lv_iadd hx hb dX11_moves_163 ?_
      have g0 := ql_in (ql_gt hf)
      have hf := ql_gx hf
      refine va_iald (f := (z.1 10)) hx hb hK.1 hP 9 0 rfl rfl g0 dX11_moves_164 ?_
      have g0 := ql_in (ql_gt hf)
      have hf := ql_gx hf
      refine va_iast (f := (z.1 10)) hx hb hK.1 hP hD hS 9 0 rfl rfl g0 dX11_moves_165 (fun H locs hP hD hS => ?_)
      refine lv_aload_n hx hb dX11_moves_166 rfl (lv_at hl 0 rfl) ?_
      refine va_get (D := (dC, dI)) (ci := 11) (v := .ref (ad 11)) (C := RX11) (T := TX11) (N := 41) hx hb hts iw_X11_moves_X11 hown hK.1 hP 0 rfl rfl 11 (by decide) fl37 (fun _ h9 => h9) rfl dX11_moves_167 ?_
      refine lv_sipush (v := 200) hx hb dX11_moves_170 (by decide) ?_
      refine lv_iload_n hx hb dX11_moves_173 rfl (lv_at hl 1 rfl) ?_
      refine lv_imul hx hb dX11_moves_174 ?_
      refine lv_iload_n hx hb dX11_moves_175 rfl (lv_at hl 2 rfl) ?_
      refine lv_iadd hx hb dX11_moves_176 ?_
      refine lv_aload_n hx hb dX11_moves_177 rfl (lv_at hl 0 rfl) ?_
      refine va_get (D := (dC, dI)) (ci := 11) (v := .ref (ad 11)) (C := RX11) (T := TX11) (N := 41) hx hb hts iw_X11_moves_X11 hown hK.1 hP 0 rfl rfl 11 (by decide) fl37 (fun _ h9 => h9) rfl dX11_moves_178 ?_
      refine lv_sipush (v := 800) hx hb dX11_moves_181 (by decide) ?_
      refine lv_iload_n hx hb dX11_moves_184 rfl (lv_at hl 2 rfl) ?_
      refine lv_iadd hx hb dX11_moves_185 ?_
      have g0 := ql_in (ql_gt hf)
      have hf := ql_gx hf
      refine va_iald (f := (z.1 11)) hx hb hK.1 hP 10 0 rfl rfl g0 dX11_moves_186 ?_
      have g0 := ql_in (ql_gt hf)
      have hf := ql_gx hf
      refine va_iast (f := (z.1 11)) hx hb hK.1 hP hD hS 10 0 rfl rfl g0 dX11_moves_187 (fun H locs hP hD hS => ?_)
      refine lv_iinc (v := (x2 + 1)) (lv' := [(2, .int (x2 + 1)), (0, .ref h), (1, .int x1)]) hx hb dX11_moves_188 hl (k := 2) rfl rfl (by decide) rfl (fun ls hl => ?_)
      refine lv_goto (tgt := 137) hx hb dX11_moves_191 (by decide) ?_
      exact ih _ _ _ hf _ _ _ hP hD hS (lv_sub hl [1, 2, 0] rfl)
set_option maxHeartbeats 4000000 in
set_option maxRecDepth 100000 in
theorem w_X11_moves_83 {p : Program} {l : Launch} {e : Env} {s : State} {m : MethodId} {args : Array Value} {below : List Frame} {meth : Method} {c : Code} {dC : Nat → ClassId} {dI : Nat → Nat → Nat} {A : Nat → Prop} {h : Nat} {ad : Nat → Nat} {cI cZ cJ : ClassId} {res : ql_Z} (C0 : ql_C p s m args meth c cX11_moves 3 none wsX11_moves RX11 (dC, dI) [(cI, .int), (cZ, .boolean), (cJ, .long)] A) (N : Nat) : ∀ (n : Nat), ∀ (z : ql_Z) (x1 : Int32) (x2 : Int32), f_X11_moves_83 N n z x1 x2 = some res → ∀ (H : Heap) (locs : List Loc) (ls : Array Slot), va_P (dC, dI) vwCl ((ql_mw h ad cI cZ cJ) z) H → va_D A ((ql_mw h ad cI cZ cJ) z) → va_S A s.heap H locs → lv_has ls 3 [(0, .ref h), (1, .int x1), (2, .int x2)] → W p l e rm_X11_moves s m args below meth c H locs 0 0 (ql_Qv below (dC, dI) (ql_mw h ad cI cZ cJ) A args s res) (F0 m 83 ls []) := by
  have C0q := C0
  obtain ⟨hx, hb, hr, hml, hown, hts, hlocks, hK, hA⟩ := C0q
  have fl25 := hts (Cond.fieldLink RX11 25 "TestedLoopsModel" "acts" "[I") (by decide +kernel)
  have fl28 := hts (Cond.fieldLink RX11 28 "TestedLoopsModel" "behind" "[I") (by decide +kernel)
  intro n
  induction n with
  | zero =>
    intro z x1 x2 hf
    rw [f_X11_moves_83] at hf
    cases hf
  | succ n ih =>
    intro z x1 x2 hf H locs ls hP hD hS hl
    rw [f_X11_moves_83] at hf
    refine lv_iload_n hx hb dX11_moves_83 rfl (lv_at hl 2 rfl) ?_
    refine lv_bipush (v := 17) hx hb dX11_moves_84 (by decide) ?_
    refine lv_icmp_ge (tgt := 135) hx hb dX11_moves_86 (by decide) (fun c2 => ?_) (fun c2 => ?_)
    · have hf := (if_pos c2).symm.trans hf
      refine lv_iconst (v := 0) hx hb dX11_moves_135 (by decide) ?_
      refine lv_istore_n (lv' := [(2, .int 0), (0, .ref h), (1, .int x1)]) hx hb dX11_moves_136 rfl hl (by decide) rfl (fun ls hl => ?_)
      exact w_X11_moves_137 C0 N N _ _ _ hf _ _ _ hP hD hS (lv_sub hl [1, 2, 0] rfl)
    · have hf := (if_neg c2).symm.trans hf
      refine lv_aload_n hx hb dX11_moves_89 rfl (lv_at hl 0 rfl) ?_
      refine va_get (D := (dC, dI)) (ci := 11) (v := .ref (ad 7)) (C := RX11) (T := TX11) (N := 41) hx hb hts iw_X11_moves_X11 hown hK.1 hP 0 rfl rfl 7 (by decide) fl25 (fun _ h9 => h9) rfl dX11_moves_90 ?_
      refine lv_bipush (v := 17) hx hb dX11_moves_93 (by decide) ?_
      refine lv_iload_n hx hb dX11_moves_95 rfl (lv_at hl 1 rfl) ?_
      refine lv_imul hx hb dX11_moves_96 ?_
      refine lv_iload_n hx hb dX11_moves_97 rfl (lv_at hl 2 rfl) ?_
      refine lv_iadd hx hb dX11_moves_98 ?_
      refine lv_aload_n hx hb dX11_moves_99 rfl (lv_at hl 0 rfl) ?_
      refine va_get (D := (dC, dI)) (ci := 11) (v := .ref (ad 7)) (C := RX11) (T := TX11) (N := 41) hx hb hts iw_X11_moves_X11 hown hK.1 hP 0 rfl rfl 7 (by decide) fl25 (fun _ h9 => h9) rfl dX11_moves_100 ?_
      refine lv_bipush (v := 68) hx hb dX11_moves_103 (by decide) ?_
      refine lv_iload_n hx hb dX11_moves_105 rfl (lv_at hl 2 rfl) ?_
      refine lv_iadd hx hb dX11_moves_106 ?_
      have g0 := ql_in (ql_gt hf)
      have hf := ql_gx hf
      refine va_iald (f := (z.1 7)) hx hb hK.1 hP 6 0 rfl rfl g0 dX11_moves_107 ?_
      have g0 := ql_in (ql_gt hf)
      have hf := ql_gx hf
      refine va_iast (f := (z.1 7)) hx hb hK.1 hP hD hS 6 0 rfl rfl g0 dX11_moves_108 (fun H locs hP hD hS => ?_)
      refine lv_aload_n hx hb dX11_moves_109 rfl (lv_at hl 0 rfl) ?_
      refine va_get (D := (dC, dI)) (ci := 11) (v := .ref (ad 8)) (C := RX11) (T := TX11) (N := 41) hx hb hts iw_X11_moves_X11 hown hK.1 hP 0 rfl rfl 8 (by decide) fl28 (fun _ h9 => h9) rfl dX11_moves_110 ?_
      refine lv_bipush (v := 17) hx hb dX11_moves_113 (by decide) ?_
      refine lv_iload_n hx hb dX11_moves_115 rfl (lv_at hl 1 rfl) ?_
      refine lv_imul hx hb dX11_moves_116 ?_
      refine lv_iload_n hx hb dX11_moves_117 rfl (lv_at hl 2 rfl) ?_
      refine lv_iadd hx hb dX11_moves_118 ?_
      refine lv_aload_n hx hb dX11_moves_119 rfl (lv_at hl 0 rfl) ?_
      refine va_get (D := (dC, dI)) (ci := 11) (v := .ref (ad 8)) (C := RX11) (T := TX11) (N := 41) hx hb hts iw_X11_moves_X11 hown hK.1 hP 0 rfl rfl 8 (by decide) fl28 (fun _ h9 => h9) rfl dX11_moves_120 ?_
      refine lv_bipush (v := 68) hx hb dX11_moves_123 (by decide) ?_
      refine lv_iload_n hx hb dX11_moves_125 rfl (lv_at hl 2 rfl) ?_
      refine lv_iadd hx hb dX11_moves_126 ?_
      have g0 := ql_in (ql_gt hf)
      have hf := ql_gx hf
      refine va_iald (f := (z.1 8)) hx hb hK.1 hP 7 0 rfl rfl g0 dX11_moves_127 ?_
      have g0 := ql_in (ql_gt hf)
      have hf := ql_gx hf
      refine va_iast (f := (z.1 8)) hx hb hK.1 hP hD hS 7 0 rfl rfl g0 dX11_moves_128 (fun H locs hP hD hS => ?_)
      refine lv_iinc (v := (x2 + 1)) (lv' := [(2, .int (x2 + 1)), (0, .ref h), (1, .int x1)]) hx hb dX11_moves_129 hl (k := 2) rfl rfl (by decide) rfl (fun ls hl => ?_)
      refine lv_goto (tgt := 83) hx hb dX11_moves_132 (by decide) ?_
      exact ih _ _ _ hf _ _ _ hP hD hS (lv_sub hl [1, 2, 0] rfl)
set_option maxHeartbeats 4000000 in
set_option maxRecDepth 100000 in
theorem w_X11_moves_2 {p : Program} {l : Launch} {e : Env} {s : State} {m : MethodId} {args : Array Value} {below : List Frame} {meth : Method} {c : Code} {dC : Nat → ClassId} {dI : Nat → Nat → Nat} {A : Nat → Prop} {h : Nat} {ad : Nat → Nat} {cI cZ cJ : ClassId} {res : ql_Z} (C0 : ql_C p s m args meth c cX11_moves 3 none wsX11_moves RX11 (dC, dI) [(cI, .int), (cZ, .boolean), (cJ, .long)] A) (N : Nat) : ∀ (n : Nat), ∀ (z : ql_Z) (x1 : Int32) (x2 : Int32), f_X11_moves_2 N n z x1 x2 = some res → ∀ (H : Heap) (locs : List Loc) (ls : Array Slot), va_P (dC, dI) vwCl ((ql_mw h ad cI cZ cJ) z) H → va_D A ((ql_mw h ad cI cZ cJ) z) → va_S A s.heap H locs → lv_has ls 3 [(0, .ref h), (1, .int x1), (2, .int x2)] → W p l e rm_X11_moves s m args below meth c H locs 0 0 (ql_Qv below (dC, dI) (ql_mw h ad cI cZ cJ) A args s res) (F0 m 2 ls []) := by
  have C0q := C0
  obtain ⟨hx, hb, hr, hml, hown, hts, hlocks, hK, hA⟩ := C0q
  have fl13 := hts (Cond.fieldLink RX11 13 "TestedLoopsModel" "does" "[I") (by decide +kernel)
  have fl16 := hts (Cond.fieldLink RX11 16 "TestedLoopsModel" "what" "[I") (by decide +kernel)
  have fl19 := hts (Cond.fieldLink RX11 19 "TestedLoopsModel" "goes" "[I") (by decide +kernel)
  intro n
  induction n with
  | zero =>
    intro z x1 x2 hf
    rw [f_X11_moves_2] at hf
    cases hf
  | succ n ih =>
    intro z x1 x2 hf H locs ls hP hD hS hl
    rw [f_X11_moves_2] at hf
    refine lv_iload_n hx hb dX11_moves_2 rfl (lv_at hl 2 rfl) ?_
    refine lv_sipush (v := 400) hx hb dX11_moves_3 (by decide) ?_
    refine lv_icmp_ge (tgt := 81) hx hb dX11_moves_6 (by decide) (fun c3 => ?_) (fun c3 => ?_)
    · have hf := (if_pos c3).symm.trans hf
      refine lv_iconst (v := 0) hx hb dX11_moves_81 (by decide) ?_
      refine lv_istore_n (lv' := [(2, .int 0), (0, .ref h), (1, .int x1)]) hx hb dX11_moves_82 rfl hl (by decide) rfl (fun ls hl => ?_)
      exact w_X11_moves_83 C0 N N _ _ _ hf _ _ _ hP hD hS (lv_sub hl [1, 2, 0] rfl)
    · have hf := (if_neg c3).symm.trans hf
      refine lv_aload_n hx hb dX11_moves_9 rfl (lv_at hl 0 rfl) ?_
      refine va_get (D := (dC, dI)) (ci := 11) (v := .ref (ad 3)) (C := RX11) (T := TX11) (N := 41) hx hb hts iw_X11_moves_X11 hown hK.1 hP 0 rfl rfl 3 (by decide) fl13 (fun _ h9 => h9) rfl dX11_moves_10 ?_
      refine lv_sipush (v := 400) hx hb dX11_moves_13 (by decide) ?_
      refine lv_iload_n hx hb dX11_moves_16 rfl (lv_at hl 1 rfl) ?_
      refine lv_imul hx hb dX11_moves_17 ?_
      refine lv_iload_n hx hb dX11_moves_18 rfl (lv_at hl 2 rfl) ?_
      refine lv_iadd hx hb dX11_moves_19 ?_
      refine lv_aload_n hx hb dX11_moves_20 rfl (lv_at hl 0 rfl) ?_
      refine va_get (D := (dC, dI)) (ci := 11) (v := .ref (ad 3)) (C := RX11) (T := TX11) (N := 41) hx hb hts iw_X11_moves_X11 hown hK.1 hP 0 rfl rfl 3 (by decide) fl13 (fun _ h9 => h9) rfl dX11_moves_21 ?_
      refine lv_sipush (v := 1600) hx hb dX11_moves_24 (by decide) ?_
      refine lv_iload_n hx hb dX11_moves_27 rfl (lv_at hl 2 rfl) ?_
      refine lv_iadd hx hb dX11_moves_28 ?_
      have g0 := ql_in (ql_gt hf)
      have hf := ql_gx hf
      refine va_iald (f := (z.1 3)) hx hb hK.1 hP 2 0 rfl rfl g0 dX11_moves_29 ?_
      have g0 := ql_in (ql_gt hf)
      have hf := ql_gx hf
      refine va_iast (f := (z.1 3)) hx hb hK.1 hP hD hS 2 0 rfl rfl g0 dX11_moves_30 (fun H locs hP hD hS => ?_)
      refine lv_aload_n hx hb dX11_moves_31 rfl (lv_at hl 0 rfl) ?_
      refine va_get (D := (dC, dI)) (ci := 11) (v := .ref (ad 4)) (C := RX11) (T := TX11) (N := 41) hx hb hts iw_X11_moves_X11 hown hK.1 hP 0 rfl rfl 4 (by decide) fl16 (fun _ h9 => h9) rfl dX11_moves_32 ?_
      refine lv_sipush (v := 400) hx hb dX11_moves_35 (by decide) ?_
      refine lv_iload_n hx hb dX11_moves_38 rfl (lv_at hl 1 rfl) ?_
      refine lv_imul hx hb dX11_moves_39 ?_
      refine lv_iload_n hx hb dX11_moves_40 rfl (lv_at hl 2 rfl) ?_
      refine lv_iadd hx hb dX11_moves_41 ?_
      refine lv_aload_n hx hb dX11_moves_42 rfl (lv_at hl 0 rfl) ?_
      refine va_get (D := (dC, dI)) (ci := 11) (v := .ref (ad 4)) (C := RX11) (T := TX11) (N := 41) hx hb hts iw_X11_moves_X11 hown hK.1 hP 0 rfl rfl 4 (by decide) fl16 (fun _ h9 => h9) rfl dX11_moves_43 ?_
      refine lv_sipush (v := 1600) hx hb dX11_moves_46 (by decide) ?_
      refine lv_iload_n hx hb dX11_moves_49 rfl (lv_at hl 2 rfl) ?_
      refine lv_iadd hx hb dX11_moves_50 ?_
      have g0 := ql_in (ql_gt hf)
      have hf := ql_gx hf
      refine va_iald (f := (z.1 4)) hx hb hK.1 hP 3 0 rfl rfl g0 dX11_moves_51 ?_
      have g0 := ql_in (ql_gt hf)
      have hf := ql_gx hf
      refine va_iast (f := (z.1 4)) hx hb hK.1 hP hD hS 3 0 rfl rfl g0 dX11_moves_52 (fun H locs hP hD hS => ?_)
      refine lv_aload_n hx hb dX11_moves_53 rfl (lv_at hl 0 rfl) ?_
      refine va_get (D := (dC, dI)) (ci := 11) (v := .ref (ad 5)) (C := RX11) (T := TX11) (N := 41) hx hb hts iw_X11_moves_X11 hown hK.1 hP 0 rfl rfl 5 (by decide) fl19 (fun _ h9 => h9) rfl dX11_moves_54 ?_
      refine lv_sipush (v := 400) hx hb dX11_moves_57 (by decide) ?_
      refine lv_iload_n hx hb dX11_moves_60 rfl (lv_at hl 1 rfl) ?_
      refine lv_imul hx hb dX11_moves_61 ?_
      refine lv_iload_n hx hb dX11_moves_62 rfl (lv_at hl 2 rfl) ?_
      refine lv_iadd hx hb dX11_moves_63 ?_
      refine lv_aload_n hx hb dX11_moves_64 rfl (lv_at hl 0 rfl) ?_
      refine va_get (D := (dC, dI)) (ci := 11) (v := .ref (ad 5)) (C := RX11) (T := TX11) (N := 41) hx hb hts iw_X11_moves_X11 hown hK.1 hP 0 rfl rfl 5 (by decide) fl19 (fun _ h9 => h9) rfl dX11_moves_65 ?_
      refine lv_sipush (v := 1600) hx hb dX11_moves_68 (by decide) ?_
      refine lv_iload_n hx hb dX11_moves_71 rfl (lv_at hl 2 rfl) ?_
      refine lv_iadd hx hb dX11_moves_72 ?_
      have g0 := ql_in (ql_gt hf)
      have hf := ql_gx hf
      refine va_iald (f := (z.1 5)) hx hb hK.1 hP 4 0 rfl rfl g0 dX11_moves_73 ?_
      have g0 := ql_in (ql_gt hf)
      have hf := ql_gx hf
      refine va_iast (f := (z.1 5)) hx hb hK.1 hP hD hS 4 0 rfl rfl g0 dX11_moves_74 (fun H locs hP hD hS => ?_)
      refine lv_iinc (v := (x2 + 1)) (lv' := [(2, .int (x2 + 1)), (0, .ref h), (1, .int x1)]) hx hb dX11_moves_75 hl (k := 2) rfl rfl (by decide) rfl (fun ls hl => ?_)
      refine lv_goto (tgt := 2) hx hb dX11_moves_78 (by decide) ?_
      exact ih _ _ _ hf _ _ _ hP hD hS (lv_sub hl [1, 2, 0] rfl)
set_option maxHeartbeats 4000000 in
set_option maxRecDepth 100000 in
theorem w_X11_moves_0 {p : Program} {l : Launch} {e : Env} {s : State} {m : MethodId} {args : Array Value} {below : List Frame} {meth : Method} {c : Code} {dC : Nat → ClassId} {dI : Nat → Nat → Nat} {A : Nat → Prop} {h : Nat} {ad : Nat → Nat} {cI cZ cJ : ClassId} {res : ql_Z} (C0 : ql_C p s m args meth c cX11_moves 3 none wsX11_moves RX11 (dC, dI) [(cI, .int), (cZ, .boolean), (cJ, .long)] A) (N : Nat) : ∀ (z : ql_Z) (x1 : Int32), f_X11_moves_0 N z x1 = some res → ∀ (H : Heap) (locs : List Loc) (ls : Array Slot), va_P (dC, dI) vwCl ((ql_mw h ad cI cZ cJ) z) H → va_D A ((ql_mw h ad cI cZ cJ) z) → va_S A s.heap H locs → lv_has ls 3 [(0, .ref h), (1, .int x1)] → W p l e rm_X11_moves s m args below meth c H locs 0 0 (ql_Qv below (dC, dI) (ql_mw h ad cI cZ cJ) A args s res) (F0 m 0 ls []) := by
  have C0q := C0
  obtain ⟨hx, hb, hr, hml, hown, hts, hlocks, hK, hA⟩ := C0q
  intro z x1 hf H locs ls hP hD hS hl
  unfold f_X11_moves_0 at hf
  refine lv_iconst (v := 0) hx hb dX11_moves_0 (by decide) ?_
  refine lv_istore_n (lv' := [(2, .int 0), (0, .ref h), (1, .int x1)]) hx hb dX11_moves_1 rfl hl (by decide) rfl (fun ls hl => ?_)
  exact w_X11_moves_2 C0 N N _ _ _ hf _ _ _ hP hD hS (lv_sub hl [1, 2, 0] rfl)
set_option maxRecDepth 100000 in
theorem c_X11_moves (l : Launch) (dC : Nat → ClassId) (dI : Nat → Nat → Nat) (h : Nat) (ad : Nat → Nat) (cI cZ cJ : ClassId) (N : Nat) (z : ql_Z) (x1 : Int32) (res : ql_Z) (hf : f_X11_moves N z x1 = some res) : ql_Mv l yX11_moves wsX11_moves rm_X11_moves (dC, dI) [(cI, .int), (cZ, .boolean), (cJ, .long)] (ql_mw h ad cI cZ cJ) [.ref h, .int x1] z res :=
  ql_start_v (by decide) rfl (Nat.le_of_ble_eq_true rfl) (fun p e s m below meth c A ls C0 hl hP hD hS => w_X11_moves_0 C0 N z x1 hf s.heap [] ls hP hD hS (lv_sub (show lv_has ls 3 [(0, .ref h), (1, .int x1)] from hl) [0, 1] rfl))
/-! ===== TestedLoopsModel.goesFrom(III)I ===== -/
abbrev rm_X11_goesFrom : Room := { frames := 0, cells := 0, slots := 0, locals := 0 }
theorem iw_X11_goesFrom_X11 : ∀ w ∈ wsX110, w ∈ wsX11_goesFrom := fun w h => List.mem_cons_of_mem _ (List.mem_append_right _ h)
theorem qv_X11_goesFrom : yX11_goesFrom.cls = RX11 ∧ yX11_goesFrom.cls ≠ "java/lang/invoke/MethodHandle" ∧ yX11_goesFrom.cls ≠ "java/lang/invoke/VarHandle" ∧ (parseMethodDescriptor yX11_goesFrom.desc).map (fun d => d.parameters.length) = some 3 := by decide +kernel
def f_X11_goesFrom_64 (N : Nat) (z : ql_Z) (x6 : Int32) : Option (Int32) := if ql_ib x6 2000 = true then if ((z.1 3) x6.toNatClampNeg) = 4 then some 0 else some (-1) else none
def f_X11_goesFrom_133 (N : Nat) (z : ql_Z) (k6 : Int32 → Int32 → Int32 → Int32 → Option (Int32)) (x1 : Int32) (x3 : Int32) (x5 : Int32) (y0 : Int32) : Option (Int32) := if 0 ≤ y0 then k6 x1 x3 y0 (x5 + 1) else some (-1)
def f_X11_goesFrom_112 (N : Nat) (z : ql_Z) (k6 : Int32 → Int32 → Int32 → Int32 → Option (Int32)) (x1 : Int32) (x3 : Int32) (x4 : Int32) (x5 : Int32) (x6 : Int32) (y0 : Int32) : Option (Int32) := if y0 = 0 then if ql_ib x6 2000 = true then f_X11_goesFrom_133 N z k6 x1 x3 x5 ((z.1 5) x6.toNatClampNeg) else none else f_X11_goesFrom_133 N z k6 x1 x3 x5 (x4 + 1)
def f_X11_goesFrom_111 (N : Nat) (z : ql_Z) (k6 : Int32 → Int32 → Int32 → Int32 → Option (Int32)) (x1 : Int32) (x3 : Int32) (x4 : Int32) (x5 : Int32) (x6 : Int32) : Option (Int32) := f_X11_goesFrom_112 N z k6 x1 x3 x4 x5 x6 0
def f_X11_goesFrom_6 (N : Nat) (z : ql_Z) : Nat → Int32 → Int32 → Int32 → Int32 → Option (Int32)
  | 0, _, _, _, _ => none
  | n + 1, x1, x3, x4, x5 => if 400 < x5 then some (-1) else if ql_ib ((400 * x1) + x4) 2000 = true then if ((z.1 3) ((400 * x1) + x4).toNatClampNeg) = 0 then if ql_ib ((400 * x1) + x4) 2000 = true then some ((z.1 4) ((400 * x1) + x4).toNatClampNeg) else none else if ql_ib ((400 * x1) + x4) 2000 = true then if ((z.1 3) ((400 * x1) + x4).toNatClampNeg) = 4 then f_X11_goesFrom_64 N z ((400 * x1) + x4) else if ql_ib ((400 * x1) + x4) 2000 = true then if ((z.1 3) ((400 * x1) + x4).toNatClampNeg) = 3 then f_X11_goesFrom_64 N z ((400 * x1) + x4) else if ql_ib ((400 * x1) + x4) 2000 = true then if ((z.1 3) ((400 * x1) + x4).toNatClampNeg) = 1 then if ql_ib ((400 * x1) + x4) 2000 = true then if ((((z.1 4) ((400 * x1) + x4).toNatClampNeg) >>> (x3 &&& 31)) &&& 1) = 1 then f_X11_goesFrom_112 N z (f_X11_goesFrom_6 N z n) x1 x3 x4 x5 ((400 * x1) + x4) 1 else f_X11_goesFrom_111 N z (f_X11_goesFrom_6 N z n) x1 x3 x4 x5 ((400 * x1) + x4) else none else f_X11_goesFrom_111 N z (f_X11_goesFrom_6 N z n) x1 x3 x4 x5 ((400 * x1) + x4) else none else none else none else none
def f_X11_goesFrom_0 (N : Nat) (z : ql_Z) (x1 : Int32) (x2 : Int32) (x3 : Int32) : Option (Int32) := f_X11_goesFrom_6 N z N x1 x3 x2 0
def f_X11_goesFrom (N : Nat) (z : ql_Z) (x1 : Int32) (x2 : Int32) (x3 : Int32) : Option (Int32) := f_X11_goesFrom_0 N z x1 x2 x3
set_option maxHeartbeats 4000000 in
set_option maxRecDepth 100000 in
theorem w_X11_goesFrom_64 {p : Program} {l : Launch} {e : Env} {s : State} {m : MethodId} {args : Array Value} {below : List Frame} {meth : Method} {c : Code} {dC : Nat → ClassId} {dI : Nat → Nat → Nat} {A : Nat → Prop} {h : Nat} {ad : Nat → Nat} {cI cZ cJ : ClassId} {res : Int32} (C0 : ql_C p s m args meth c cX11_goesFrom 8 (some .int) wsX11_goesFrom RX11 (dC, dI) [(cI, .int), (cZ, .boolean), (cJ, .long)] A) (N : Nat) (z : ql_Z) : ∀ (x6 : Int32), f_X11_goesFrom_64 N z x6 = some res → ∀ (H : Heap) (locs : List Loc) (ls : Array Slot), va_P (dC, dI) vwCl ((ql_mw h ad cI cZ cJ) z) H → va_S A s.heap H locs → lv_has ls 8 [(0, .ref h), (6, .int x6)] → W p l e rm_X11_goesFrom s m args below meth c H locs 0 0 (ql_Qri below A args s res) (F0 m 64 ls []) := by
  have C0q := C0
  obtain ⟨hx, hb, hr, hml, hown, hts, hlocks, hK, hA⟩ := C0q
  have fl13 := hts (Cond.fieldLink RX11 13 "TestedLoopsModel" "does" "[I") (by decide +kernel)
  intro x6 hf H locs ls hP hS hl
  unfold f_X11_goesFrom_64 at hf
  refine lv_aload_n hx hb dX11_goesFrom_64 rfl (lv_at hl 0 rfl) ?_
  refine va_get (D := (dC, dI)) (ci := 11) (v := .ref (ad 3)) (C := RX11) (T := TX11) (N := 41) hx hb hts iw_X11_goesFrom_X11 hown hK.1 hP 0 rfl rfl 3 (by decide) fl13 (fun _ h9 => h9) rfl dX11_goesFrom_65 ?_
  refine lv_iload hx hb dX11_goesFrom_68 (lv_at hl 1 rfl) ?_
  have g0 := ql_in (ql_gt hf)
  have hf := ql_gx hf
  refine va_iald (f := (z.1 3)) hx hb hK.1 hP 2 0 rfl rfl g0 dX11_goesFrom_70 ?_
  refine lv_iconst (v := 4) hx hb dX11_goesFrom_71 (by decide) ?_
  refine lv_icmp_ne (tgt := 79) hx hb dX11_goesFrom_72 (by decide) (fun c1 => ?_) (fun c1 => ?_)
  · have hf := (if_neg c1).symm.trans hf
    refine lv_iconst (v := (-1)) hx hb dX11_goesFrom_79 (by decide) ?_
    exact ql_riret C0 hf hS dX11_goesFrom_80
  · have hf := (if_pos c1).symm.trans hf
    refine lv_iconst (v := 0) hx hb dX11_goesFrom_75 (by decide) ?_
    refine lv_goto (tgt := 80) hx hb dX11_goesFrom_76 (by decide) ?_
    exact ql_riret C0 hf hS dX11_goesFrom_80
set_option maxHeartbeats 4000000 in
set_option maxRecDepth 100000 in
theorem w_X11_goesFrom_133 {p : Program} {l : Launch} {e : Env} {s : State} {m : MethodId} {args : Array Value} {below : List Frame} {meth : Method} {c : Code} {dC : Nat → ClassId} {dI : Nat → Nat → Nat} {A : Nat → Prop} {h : Nat} {ad : Nat → Nat} {cI cZ cJ : ClassId} {res : Int32} (C0 : ql_C p s m args meth c cX11_goesFrom 8 (some .int) wsX11_goesFrom RX11 (dC, dI) [(cI, .int), (cZ, .boolean), (cJ, .long)] A) (N : Nat) (z : ql_Z) (k6 : Int32 → Int32 → Int32 → Int32 → Option (Int32)) (hk6 : ∀ (x1 : Int32) (x3 : Int32) (x4 : Int32) (x5 : Int32), k6 x1 x3 x4 x5 = some res → ∀ (H : Heap) (locs : List Loc) (ls : Array Slot), va_P (dC, dI) vwCl ((ql_mw h ad cI cZ cJ) z) H → va_S A s.heap H locs → lv_has ls 8 [(0, .ref h), (1, .int x1), (3, .int x3), (4, .int x4), (5, .int x5)] → W p l e rm_X11_goesFrom s m args below meth c H locs 0 0 (ql_Qri below A args s res) (F0 m 6 ls [])) : ∀ (x1 : Int32) (x3 : Int32) (x5 : Int32) (y0 : Int32), f_X11_goesFrom_133 N z k6 x1 x3 x5 y0 = some res → ∀ (H : Heap) (locs : List Loc) (ls : Array Slot), va_P (dC, dI) vwCl ((ql_mw h ad cI cZ cJ) z) H → va_S A s.heap H locs → lv_has ls 8 [(0, .ref h), (1, .int x1), (3, .int x3), (5, .int x5)] → W p l e rm_X11_goesFrom s m args below meth c H locs 0 0 (ql_Qri below A args s res) (F0 m 133 ls [.int y0]) := by
  have C0q := C0
  obtain ⟨hx, hb, hr, hml, hown, hts, hlocks, hK, hA⟩ := C0q
  intro x1 x3 x5 y0 hf H locs ls hP hS hl
  unfold f_X11_goesFrom_133 at hf
  refine lv_istore (lv' := [(4, .int y0), (0, .ref h), (1, .int x1), (3, .int x3), (5, .int x5)]) hx hb dX11_goesFrom_133 hl (by decide) rfl (fun ls hl => ?_)
  refine lv_iload hx hb dX11_goesFrom_135 (lv_at hl 0 rfl) ?_
  refine lv_if_ge (tgt := 142) hx hb dX11_goesFrom_137 (by decide) (fun c2 => ?_) (fun c2 => ?_)
  · have hf := (if_pos c2).symm.trans hf
    refine lv_iinc (v := (x5 + 1)) (lv' := [(5, .int (x5 + 1)), (4, .int y0), (0, .ref h), (1, .int x1), (3, .int x3)]) hx hb dX11_goesFrom_142 hl (k := 4) rfl rfl (by decide) rfl (fun ls hl => ?_)
    refine lv_goto (tgt := 6) hx hb dX11_goesFrom_145 (by decide) ?_
    exact hk6 _ _ _ _ hf _ _ _ hP hS (lv_sub hl [2, 3, 4, 1, 0] rfl)
  · have hf := (if_neg c2).symm.trans hf
    refine lv_iconst (v := (-1)) hx hb dX11_goesFrom_140 (by decide) ?_
    exact ql_riret C0 hf hS dX11_goesFrom_141
set_option maxHeartbeats 4000000 in
set_option maxRecDepth 100000 in
theorem w_X11_goesFrom_112 {p : Program} {l : Launch} {e : Env} {s : State} {m : MethodId} {args : Array Value} {below : List Frame} {meth : Method} {c : Code} {dC : Nat → ClassId} {dI : Nat → Nat → Nat} {A : Nat → Prop} {h : Nat} {ad : Nat → Nat} {cI cZ cJ : ClassId} {res : Int32} (C0 : ql_C p s m args meth c cX11_goesFrom 8 (some .int) wsX11_goesFrom RX11 (dC, dI) [(cI, .int), (cZ, .boolean), (cJ, .long)] A) (N : Nat) (z : ql_Z) (k6 : Int32 → Int32 → Int32 → Int32 → Option (Int32)) (hk6 : ∀ (x1 : Int32) (x3 : Int32) (x4 : Int32) (x5 : Int32), k6 x1 x3 x4 x5 = some res → ∀ (H : Heap) (locs : List Loc) (ls : Array Slot), va_P (dC, dI) vwCl ((ql_mw h ad cI cZ cJ) z) H → va_S A s.heap H locs → lv_has ls 8 [(0, .ref h), (1, .int x1), (3, .int x3), (4, .int x4), (5, .int x5)] → W p l e rm_X11_goesFrom s m args below meth c H locs 0 0 (ql_Qri below A args s res) (F0 m 6 ls [])) : ∀ (x1 : Int32) (x3 : Int32) (x4 : Int32) (x5 : Int32) (x6 : Int32) (y0 : Int32), f_X11_goesFrom_112 N z k6 x1 x3 x4 x5 x6 y0 = some res → ∀ (H : Heap) (locs : List Loc) (ls : Array Slot), va_P (dC, dI) vwCl ((ql_mw h ad cI cZ cJ) z) H → va_S A s.heap H locs → lv_has ls 8 [(0, .ref h), (1, .int x1), (3, .int x3), (4, .int x4), (5, .int x5), (6, .int x6)] → W p l e rm_X11_goesFrom s m args below meth c H locs 0 0 (ql_Qri below A args s res) (F0 m 112 ls [.int y0]) := by
  have C0q := C0
  obtain ⟨hx, hb, hr, hml, hown, hts, hlocks, hK, hA⟩ := C0q
  have fl19 := hts (Cond.fieldLink RX11 19 "TestedLoopsModel" "goes" "[I") (by decide +kernel)
  intro x1 x3 x4 x5 x6 y0 hf H locs ls hP hS hl
  unfold f_X11_goesFrom_112 at hf
  refine lv_istore (lv' := [(7, .int y0), (0, .ref h), (1, .int x1), (3, .int x3), (4, .int x4), (5, .int x5), (6, .int x6)]) hx hb dX11_goesFrom_112 hl (by decide) rfl (fun ls hl => ?_)
  refine lv_iload hx hb dX11_goesFrom_114 (lv_at hl 0 rfl) ?_
  refine lv_if_eq (tgt := 126) hx hb dX11_goesFrom_116 (by decide) (fun c3 => ?_) (fun c3 => ?_)
  · have hf := (if_pos c3).symm.trans hf
    refine lv_aload_n hx hb dX11_goesFrom_126 rfl (lv_at hl 1 rfl) ?_
    refine va_get (D := (dC, dI)) (ci := 11) (v := .ref (ad 5)) (C := RX11) (T := TX11) (N := 41) hx hb hts iw_X11_goesFrom_X11 hown hK.1 hP 0 rfl rfl 5 (by decide) fl19 (fun _ h9 => h9) rfl dX11_goesFrom_127 ?_
    refine lv_iload hx hb dX11_goesFrom_130 (lv_at hl 6 rfl) ?_
    have g0 := ql_in (ql_gt hf)
    have hf := ql_gx hf
    refine va_iald (f := (z.1 5)) hx hb hK.1 hP 4 0 rfl rfl g0 dX11_goesFrom_132 ?_
    exact w_X11_goesFrom_133 C0 N z k6 hk6 _ _ _ _ hf _ _ _ hP hS (lv_sub hl [1, 2, 3, 5] rfl)
  · have hf := (if_neg c3).symm.trans hf
    refine lv_iload hx hb dX11_goesFrom_119 (lv_at hl 4 rfl) ?_
    refine lv_iconst (v := 1) hx hb dX11_goesFrom_121 (by decide) ?_
    refine lv_iadd hx hb dX11_goesFrom_122 ?_
    refine lv_goto (tgt := 133) hx hb dX11_goesFrom_123 (by decide) ?_
    exact w_X11_goesFrom_133 C0 N z k6 hk6 _ _ _ _ hf _ _ _ hP hS (lv_sub hl [1, 2, 3, 5] rfl)
set_option maxHeartbeats 4000000 in
set_option maxRecDepth 100000 in
theorem w_X11_goesFrom_111 {p : Program} {l : Launch} {e : Env} {s : State} {m : MethodId} {args : Array Value} {below : List Frame} {meth : Method} {c : Code} {dC : Nat → ClassId} {dI : Nat → Nat → Nat} {A : Nat → Prop} {h : Nat} {ad : Nat → Nat} {cI cZ cJ : ClassId} {res : Int32} (C0 : ql_C p s m args meth c cX11_goesFrom 8 (some .int) wsX11_goesFrom RX11 (dC, dI) [(cI, .int), (cZ, .boolean), (cJ, .long)] A) (N : Nat) (z : ql_Z) (k6 : Int32 → Int32 → Int32 → Int32 → Option (Int32)) (hk6 : ∀ (x1 : Int32) (x3 : Int32) (x4 : Int32) (x5 : Int32), k6 x1 x3 x4 x5 = some res → ∀ (H : Heap) (locs : List Loc) (ls : Array Slot), va_P (dC, dI) vwCl ((ql_mw h ad cI cZ cJ) z) H → va_S A s.heap H locs → lv_has ls 8 [(0, .ref h), (1, .int x1), (3, .int x3), (4, .int x4), (5, .int x5)] → W p l e rm_X11_goesFrom s m args below meth c H locs 0 0 (ql_Qri below A args s res) (F0 m 6 ls [])) : ∀ (x1 : Int32) (x3 : Int32) (x4 : Int32) (x5 : Int32) (x6 : Int32), f_X11_goesFrom_111 N z k6 x1 x3 x4 x5 x6 = some res → ∀ (H : Heap) (locs : List Loc) (ls : Array Slot), va_P (dC, dI) vwCl ((ql_mw h ad cI cZ cJ) z) H → va_S A s.heap H locs → lv_has ls 8 [(0, .ref h), (1, .int x1), (3, .int x3), (4, .int x4), (5, .int x5), (6, .int x6)] → W p l e rm_X11_goesFrom s m args below meth c H locs 0 0 (ql_Qri below A args s res) (F0 m 111 ls []) := by
  have C0q := C0
  obtain ⟨hx, hb, hr, hml, hown, hts, hlocks, hK, hA⟩ := C0q
  intro x1 x3 x4 x5 x6 hf H locs ls hP hS hl
  unfold f_X11_goesFrom_111 at hf
  refine lv_iconst (v := 0) hx hb dX11_goesFrom_111 (by decide) ?_
  exact w_X11_goesFrom_112 C0 N z k6 hk6 _ _ _ _ _ _ hf _ _ _ hP hS (lv_sub hl [0, 1, 2, 3, 4, 5] rfl)
set_option maxHeartbeats 4000000 in
set_option maxRecDepth 100000 in
theorem w_X11_goesFrom_6 {p : Program} {l : Launch} {e : Env} {s : State} {m : MethodId} {args : Array Value} {below : List Frame} {meth : Method} {c : Code} {dC : Nat → ClassId} {dI : Nat → Nat → Nat} {A : Nat → Prop} {h : Nat} {ad : Nat → Nat} {cI cZ cJ : ClassId} {res : Int32} (C0 : ql_C p s m args meth c cX11_goesFrom 8 (some .int) wsX11_goesFrom RX11 (dC, dI) [(cI, .int), (cZ, .boolean), (cJ, .long)] A) (N : Nat) (z : ql_Z) : ∀ (n : Nat), ∀ (x1 : Int32) (x3 : Int32) (x4 : Int32) (x5 : Int32), f_X11_goesFrom_6 N z n x1 x3 x4 x5 = some res → ∀ (H : Heap) (locs : List Loc) (ls : Array Slot), va_P (dC, dI) vwCl ((ql_mw h ad cI cZ cJ) z) H → va_S A s.heap H locs → lv_has ls 8 [(0, .ref h), (1, .int x1), (3, .int x3), (4, .int x4), (5, .int x5)] → W p l e rm_X11_goesFrom s m args below meth c H locs 0 0 (ql_Qri below A args s res) (F0 m 6 ls []) := by
  have C0q := C0
  obtain ⟨hx, hb, hr, hml, hown, hts, hlocks, hK, hA⟩ := C0q
  have fl13 := hts (Cond.fieldLink RX11 13 "TestedLoopsModel" "does" "[I") (by decide +kernel)
  have fl16 := hts (Cond.fieldLink RX11 16 "TestedLoopsModel" "what" "[I") (by decide +kernel)
  intro n
  induction n with
  | zero =>
    intro x1 x3 x4 x5 hf
    rw [f_X11_goesFrom_6] at hf
    cases hf
  | succ n ih =>
    intro x1 x3 x4 x5 hf H locs ls hP hS hl
    rw [f_X11_goesFrom_6] at hf
    refine lv_iload hx hb dX11_goesFrom_6 (lv_at hl 4 rfl) ?_
    refine lv_sipush (v := 400) hx hb dX11_goesFrom_8 (by decide) ?_
    refine lv_icmp_gt (tgt := 148) hx hb dX11_goesFrom_11 (by decide) (fun c4 => ?_) (fun c4 => ?_)
    · have hf := (if_pos c4).symm.trans hf
      refine lv_iconst (v := (-1)) hx hb dX11_goesFrom_148 (by decide) ?_
      exact ql_riret C0 hf hS dX11_goesFrom_149
    · have hf := (if_neg c4).symm.trans hf
      refine lv_sipush (v := 400) hx hb dX11_goesFrom_14 (by decide) ?_
      refine lv_iload_n hx hb dX11_goesFrom_17 rfl (lv_at hl 1 rfl) ?_
      refine lv_imul hx hb dX11_goesFrom_18 ?_
      refine lv_iload hx hb dX11_goesFrom_19 (lv_at hl 3 rfl) ?_
      refine lv_iadd hx hb dX11_goesFrom_21 ?_
      refine lv_istore (lv' := [(6, .int ((400 * x1) + x4)), (0, .ref h), (1, .int x1), (3, .int x3), (4, .int x4), (5, .int x5)]) hx hb dX11_goesFrom_22 hl (by decide) rfl (fun ls hl => ?_)
      refine lv_aload_n hx hb dX11_goesFrom_24 rfl (lv_at hl 1 rfl) ?_
      refine va_get (D := (dC, dI)) (ci := 11) (v := .ref (ad 3)) (C := RX11) (T := TX11) (N := 41) hx hb hts iw_X11_goesFrom_X11 hown hK.1 hP 0 rfl rfl 3 (by decide) fl13 (fun _ h9 => h9) rfl dX11_goesFrom_25 ?_
      refine lv_iload hx hb dX11_goesFrom_28 (lv_at hl 0 rfl) ?_
      have g0 := ql_in (ql_gt hf)
      have hf := ql_gx hf
      refine va_iald (f := (z.1 3)) hx hb hK.1 hP 2 0 rfl rfl g0 dX11_goesFrom_30 ?_
      refine lv_if_ne (tgt := 42) hx hb dX11_goesFrom_31 (by decide) (fun c5 => ?_) (fun c5 => ?_)
      · have hf := (if_neg c5).symm.trans hf
        refine lv_aload_n hx hb dX11_goesFrom_42 rfl (lv_at hl 1 rfl) ?_
        refine va_get (D := (dC, dI)) (ci := 11) (v := .ref (ad 3)) (C := RX11) (T := TX11) (N := 41) hx hb hts iw_X11_goesFrom_X11 hown hK.1 hP 0 rfl rfl 3 (by decide) fl13 (fun _ h9 => h9) rfl dX11_goesFrom_43 ?_
        refine lv_iload hx hb dX11_goesFrom_46 (lv_at hl 0 rfl) ?_
        have g0 := ql_in (ql_gt hf)
        have hf := ql_gx hf
        refine va_iald (f := (z.1 3)) hx hb hK.1 hP 2 0 rfl rfl g0 dX11_goesFrom_48 ?_
        refine lv_iconst (v := 4) hx hb dX11_goesFrom_49 (by decide) ?_
        refine lv_icmp_eq (tgt := 64) hx hb dX11_goesFrom_50 (by decide) (fun c6 => ?_) (fun c6 => ?_)
        · have hf := (if_pos c6).symm.trans hf
          exact w_X11_goesFrom_64 C0 N z _ hf _ _ _ hP hS (lv_sub hl [1, 0] rfl)
        · have hf := (if_neg c6).symm.trans hf
          refine lv_aload_n hx hb dX11_goesFrom_53 rfl (lv_at hl 1 rfl) ?_
          refine va_get (D := (dC, dI)) (ci := 11) (v := .ref (ad 3)) (C := RX11) (T := TX11) (N := 41) hx hb hts iw_X11_goesFrom_X11 hown hK.1 hP 0 rfl rfl 3 (by decide) fl13 (fun _ h9 => h9) rfl dX11_goesFrom_54 ?_
          refine lv_iload hx hb dX11_goesFrom_57 (lv_at hl 0 rfl) ?_
          have g0 := ql_in (ql_gt hf)
          have hf := ql_gx hf
          refine va_iald (f := (z.1 3)) hx hb hK.1 hP 2 0 rfl rfl g0 dX11_goesFrom_59 ?_
          refine lv_iconst (v := 3) hx hb dX11_goesFrom_60 (by decide) ?_
          refine lv_icmp_ne (tgt := 81) hx hb dX11_goesFrom_61 (by decide) (fun c7 => ?_) (fun c7 => ?_)
          · have hf := (if_neg c7).symm.trans hf
            refine lv_aload_n hx hb dX11_goesFrom_81 rfl (lv_at hl 1 rfl) ?_
            refine va_get (D := (dC, dI)) (ci := 11) (v := .ref (ad 3)) (C := RX11) (T := TX11) (N := 41) hx hb hts iw_X11_goesFrom_X11 hown hK.1 hP 0 rfl rfl 3 (by decide) fl13 (fun _ h9 => h9) rfl dX11_goesFrom_82 ?_
            refine lv_iload hx hb dX11_goesFrom_85 (lv_at hl 0 rfl) ?_
            have g0 := ql_in (ql_gt hf)
            have hf := ql_gx hf
            refine va_iald (f := (z.1 3)) hx hb hK.1 hP 2 0 rfl rfl g0 dX11_goesFrom_87 ?_
            refine lv_iconst (v := 1) hx hb dX11_goesFrom_88 (by decide) ?_
            refine lv_icmp_ne (tgt := 111) hx hb dX11_goesFrom_89 (by decide) (fun c8 => ?_) (fun c8 => ?_)
            · have hf := (if_neg c8).symm.trans hf
              exact w_X11_goesFrom_111 C0 N z (f_X11_goesFrom_6 N z n) ih _ _ _ _ _ hf _ _ _ hP hS (lv_sub hl [1, 2, 3, 4, 5, 0] rfl)
            · have hf := (if_pos c8).symm.trans hf
              refine lv_aload_n hx hb dX11_goesFrom_92 rfl (lv_at hl 1 rfl) ?_
              refine va_get (D := (dC, dI)) (ci := 11) (v := .ref (ad 4)) (C := RX11) (T := TX11) (N := 41) hx hb hts iw_X11_goesFrom_X11 hown hK.1 hP 0 rfl rfl 4 (by decide) fl16 (fun _ h9 => h9) rfl dX11_goesFrom_93 ?_
              refine lv_iload hx hb dX11_goesFrom_96 (lv_at hl 0 rfl) ?_
              have g0 := ql_in (ql_gt hf)
              have hf := ql_gx hf
              refine va_iald (f := (z.1 4)) hx hb hK.1 hP 3 0 rfl rfl g0 dX11_goesFrom_98 ?_
              refine lv_iload_n hx hb dX11_goesFrom_99 rfl (lv_at hl 3 rfl) ?_
              refine lv_ishr hx hb dX11_goesFrom_100 ?_
              refine lv_iconst (v := 1) hx hb dX11_goesFrom_101 (by decide) ?_
              refine lv_iand hx hb dX11_goesFrom_102 ?_
              refine lv_iconst (v := 1) hx hb dX11_goesFrom_103 (by decide) ?_
              refine lv_icmp_ne (tgt := 111) hx hb dX11_goesFrom_104 (by decide) (fun c9 => ?_) (fun c9 => ?_)
              · have hf := (if_neg c9).symm.trans hf
                exact w_X11_goesFrom_111 C0 N z (f_X11_goesFrom_6 N z n) ih _ _ _ _ _ hf _ _ _ hP hS (lv_sub hl [1, 2, 3, 4, 5, 0] rfl)
              · have hf := (if_pos c9).symm.trans hf
                refine lv_iconst (v := 1) hx hb dX11_goesFrom_107 (by decide) ?_
                refine lv_goto (tgt := 112) hx hb dX11_goesFrom_108 (by decide) ?_
                exact w_X11_goesFrom_112 C0 N z (f_X11_goesFrom_6 N z n) ih _ _ _ _ _ _ hf _ _ _ hP hS (lv_sub hl [1, 2, 3, 4, 5, 0] rfl)
          · have hf := (if_pos c7).symm.trans hf
            exact w_X11_goesFrom_64 C0 N z _ hf _ _ _ hP hS (lv_sub hl [1, 0] rfl)
      · have hf := (if_pos c5).symm.trans hf
        refine lv_aload_n hx hb dX11_goesFrom_34 rfl (lv_at hl 1 rfl) ?_
        refine va_get (D := (dC, dI)) (ci := 11) (v := .ref (ad 4)) (C := RX11) (T := TX11) (N := 41) hx hb hts iw_X11_goesFrom_X11 hown hK.1 hP 0 rfl rfl 4 (by decide) fl16 (fun _ h9 => h9) rfl dX11_goesFrom_35 ?_
        refine lv_iload hx hb dX11_goesFrom_38 (lv_at hl 0 rfl) ?_
        have g0 := ql_in (ql_gt hf)
        have hf := ql_gx hf
        refine va_iald (f := (z.1 4)) hx hb hK.1 hP 3 0 rfl rfl g0 dX11_goesFrom_40 ?_
        exact ql_riret C0 hf hS dX11_goesFrom_41
set_option maxHeartbeats 4000000 in
set_option maxRecDepth 100000 in
theorem w_X11_goesFrom_0 {p : Program} {l : Launch} {e : Env} {s : State} {m : MethodId} {args : Array Value} {below : List Frame} {meth : Method} {c : Code} {dC : Nat → ClassId} {dI : Nat → Nat → Nat} {A : Nat → Prop} {h : Nat} {ad : Nat → Nat} {cI cZ cJ : ClassId} {res : Int32} (C0 : ql_C p s m args meth c cX11_goesFrom 8 (some .int) wsX11_goesFrom RX11 (dC, dI) [(cI, .int), (cZ, .boolean), (cJ, .long)] A) (N : Nat) (z : ql_Z) : ∀ (x1 : Int32) (x2 : Int32) (x3 : Int32), f_X11_goesFrom_0 N z x1 x2 x3 = some res → ∀ (H : Heap) (locs : List Loc) (ls : Array Slot), va_P (dC, dI) vwCl ((ql_mw h ad cI cZ cJ) z) H → va_S A s.heap H locs → lv_has ls 8 [(0, .ref h), (1, .int x1), (2, .int x2), (3, .int x3)] → W p l e rm_X11_goesFrom s m args below meth c H locs 0 0 (ql_Qri below A args s res) (F0 m 0 ls []) := by
  have C0q := C0
  obtain ⟨hx, hb, hr, hml, hown, hts, hlocks, hK, hA⟩ := C0q
  intro x1 x2 x3 hf H locs ls hP hS hl
  unfold f_X11_goesFrom_0 at hf
  refine lv_iload_n hx hb dX11_goesFrom_0 rfl (lv_at hl 2 rfl) ?_
  refine lv_istore (lv' := [(4, .int x2), (0, .ref h), (1, .int x1), (2, .int x2), (3, .int x3)]) hx hb dX11_goesFrom_1 hl (by decide) rfl (fun ls hl => ?_)
  refine lv_iconst (v := 0) hx hb dX11_goesFrom_3 (by decide) ?_
  refine lv_istore (lv' := [(5, .int 0), (4, .int x2), (0, .ref h), (1, .int x1), (2, .int x2), (3, .int x3)]) hx hb dX11_goesFrom_4 hl (by decide) rfl (fun ls hl => ?_)
  exact w_X11_goesFrom_6 C0 N z N _ _ _ _ hf _ _ _ hP hS (lv_sub hl [2, 3, 5, 1, 0] rfl)
set_option maxRecDepth 100000 in
theorem c_X11_goesFrom (l : Launch) (dC : Nat → ClassId) (dI : Nat → Nat → Nat) (h : Nat) (ad : Nat → Nat) (cI cZ cJ : ClassId) (N : Nat) (z : ql_Z) (x1 : Int32) (x2 : Int32) (x3 : Int32) (res : Int32) (hf : f_X11_goesFrom N z x1 x2 x3 = some res) : ql_Ri l yX11_goesFrom wsX11_goesFrom rm_X11_goesFrom (dC, dI) [(cI, .int), (cZ, .boolean), (cJ, .long)] ((ql_mw h ad cI cZ cJ) z) [.ref h, .int x1, .int x2, .int x3] res :=
  ql_start_ri (by decide) rfl (Nat.le_of_ble_eq_true rfl) (fun p e s m below meth c A ls C0 hl hP hS => w_X11_goesFrom_0 C0 N z x1 x2 x3 hf s.heap [] ls hP hS (lv_sub (show lv_has ls 8 [(0, .ref h), (1, .int x1), (2, .int x2), (3, .int x3)] from hl) [0, 1, 2, 3] rfl))
/-! ===== TestedLoopsModel.lays(I)V ===== -/
abbrev rm_X11_lays : Room := { frames := 1, cells := 0, slots := 0, locals := 27 }
theorem iw_X11_lays_X11 : ∀ w ∈ wsX110, w ∈ wsX11_lays := fun w h => List.mem_cons_of_mem _ (List.mem_append_right _ h)
theorem qv_X11_lays : yX11_lays.cls = RX11 ∧ yX11_lays.cls ≠ "java/lang/invoke/MethodHandle" ∧ yX11_lays.cls ≠ "java/lang/invoke/VarHandle" ∧ (parseMethodDescriptor yX11_lays.desc).map (fun d => d.parameters.length) = some 1 := by decide +kernel
def f_X11_lays_54 (N : Nat) (k2 : ql_Z → Int32 → Int32 → Option (ql_Z)) (k14 : ql_Z → Int32 → Int32 → Int32 → Option (ql_Z)) (z : ql_Z) (x1 : Int32) (x2 : Int32) (x3 : Int32) (y0 : Int32) (y1 : Int32) (y3 : Int32) : Option (ql_Z) := (f_X11_goesFrom N z y1 y0 x3).bind fun u1 => if ql_ib y3 272 = true then k14 ((ql_up z.1 13 (upd (z.1 13) y3.toNatClampNeg u1)), z.2) x1 x2 (x3 + 1) else none
def f_X11_lays_14 (N : Nat) (k2 : ql_Z → Int32 → Int32 → Option (ql_Z)) : Nat → ql_Z → Int32 → Int32 → Int32 → Option (ql_Z)
  | 0, _, _, _, _ => none
  | n + 1, z, x1, x2, x3 => if 4 ≤ x3 then k2 z x1 (x2 + 1) else if x2 = 0 then f_X11_lays_54 N k2 (f_X11_lays_14 N k2 n) z x1 x2 x3 0 x1 (((68 * x1) + (4 * x2)) + x3) else if ql_ib ((17 * x1) + x2) 85 = true then f_X11_lays_54 N k2 (f_X11_lays_14 N k2 n) z x1 x2 x3 ((z.1 8) ((17 * x1) + x2).toNatClampNeg) x1 (((68 * x1) + (4 * x2)) + x3) else none
def f_X11_lays_2 (N : Nat) : Nat → ql_Z → Int32 → Int32 → Option (ql_Z)
  | 0, _, _, _ => none
  | n + 1, z, x1, x2 => if ql_ib x1 5 = true then if ((z.1 9) x1.toNatClampNeg) < x2 then some z else f_X11_lays_14 N (f_X11_lays_2 N n) N z x1 x2 0 else none
def f_X11_lays_0 (N : Nat) (z : ql_Z) (x1 : Int32) : Option (ql_Z) := f_X11_lays_2 N N z x1 0
def f_X11_lays (N : Nat) (z : ql_Z) (x1 : Int32) : Option (ql_Z) := f_X11_lays_0 N z x1
set_option maxHeartbeats 4000000 in
set_option maxRecDepth 100000 in
theorem w_X11_lays_54 {p : Program} {l : Launch} {e : Env} {s : State} {m : MethodId} {args : Array Value} {below : List Frame} {meth : Method} {c : Code} {dC : Nat → ClassId} {dI : Nat → Nat → Nat} {A : Nat → Prop} {h : Nat} {ad : Nat → Nat} {cI cZ cJ : ClassId} {res : ql_Z} (C0 : ql_C p s m args meth c cX11_lays 4 none wsX11_lays RX11 (dC, dI) [(cI, .int), (cZ, .boolean), (cJ, .long)] A) (N : Nat) (k2 : ql_Z → Int32 → Int32 → Option (ql_Z)) (hk2 : ∀ (z : ql_Z) (x1 : Int32) (x2 : Int32), k2 z x1 x2 = some res → ∀ (H : Heap) (locs : List Loc) (ls : Array Slot), va_P (dC, dI) vwCl ((ql_mw h ad cI cZ cJ) z) H → va_D A ((ql_mw h ad cI cZ cJ) z) → va_S A s.heap H locs → lv_has ls 4 [(0, .ref h), (1, .int x1), (2, .int x2)] → W p l e rm_X11_lays s m args below meth c H locs 0 0 (ql_Qv below (dC, dI) (ql_mw h ad cI cZ cJ) A args s res) (F0 m 2 ls [])) (k14 : ql_Z → Int32 → Int32 → Int32 → Option (ql_Z)) (hk14 : ∀ (z : ql_Z) (x1 : Int32) (x2 : Int32) (x3 : Int32), k14 z x1 x2 x3 = some res → ∀ (H : Heap) (locs : List Loc) (ls : Array Slot), va_P (dC, dI) vwCl ((ql_mw h ad cI cZ cJ) z) H → va_D A ((ql_mw h ad cI cZ cJ) z) → va_S A s.heap H locs → lv_has ls 4 [(0, .ref h), (1, .int x1), (2, .int x2), (3, .int x3)] → W p l e rm_X11_lays s m args below meth c H locs 0 0 (ql_Qv below (dC, dI) (ql_mw h ad cI cZ cJ) A args s res) (F0 m 14 ls [])) : ∀ (z : ql_Z) (x1 : Int32) (x2 : Int32) (x3 : Int32) (y0 : Int32) (y1 : Int32) (y3 : Int32), f_X11_lays_54 N k2 k14 z x1 x2 x3 y0 y1 y3 = some res → ∀ (H : Heap) (locs : List Loc) (ls : Array Slot), va_P (dC, dI) vwCl ((ql_mw h ad cI cZ cJ) z) H → va_D A ((ql_mw h ad cI cZ cJ) z) → va_S A s.heap H locs → lv_has ls 4 [(0, .ref h), (1, .int x1), (2, .int x2), (3, .int x3)] → W p l e rm_X11_lays s m args below meth c H locs 0 0 (ql_Qv below (dC, dI) (ql_mw h ad cI cZ cJ) A args s res) (F0 m 54 ls [.int y0, .int y1, .ref h, .int y3, .ref (ad 13)]) := by
  have C0q := C0
  obtain ⟨hx, hb, hr, hml, hown, hts, hlocks, hK, hA⟩ := C0q
  intro z x1 x2 x3 y0 y1 y3 hf H locs ls hP hD hS hl
  unfold f_X11_lays_54 at hf
  refine lv_iload_n hx hb dX11_lays_54 rfl (lv_at hl 3 rfl) ?_
  obtain ⟨u1, hu1, hf⟩ := ql_bd hf
  refine ql_callRVi (As := [.int y1, .int y0, .int x3]) (rest := [.int y3, .ref (ad 13)]) C0 (c_X11_goesFrom l dC dI h ad cI cZ cJ N z y1 y0 x3 u1 hu1) (cwV 3 hts gX11_lays_X11_goesFrom rfl rfl rfl qv_X11_goesFrom ⟨Nat.le_of_ble_eq_true rfl, Nat.le_of_ble_eq_true rfl⟩) (va_recv hK.1 hP (ci := 11) (q0 := 0) rfl rfl) hK hP hS hl.1 rfl rfl (Nat.le_of_ble_eq_true rfl) dX11_lays_55 (fun H1 locs hk hS => ?_)
  have hP := ql_keep hP hk
  have g0 := ql_in (ql_gt hf)
  have hf := ql_gx hf
  refine va_iast (f := (z.1 13)) hx hb hK.1 hP hD hS 12 0 rfl rfl g0 dX11_lays_58 (fun H locs hP hD hS => ?_)
  refine lv_iinc (v := (x3 + 1)) (lv' := [(3, .int (x3 + 1)), (0, .ref h), (1, .int x1), (2, .int x2)]) hx hb dX11_lays_59 hl (k := 3) rfl rfl (by decide) rfl (fun ls hl => ?_)
  refine lv_goto (tgt := 14) hx hb dX11_lays_62 (by decide) ?_
  exact hk14 _ _ _ _ hf _ _ _ hP hD hS (lv_sub hl [1, 2, 3, 0] rfl)
set_option maxHeartbeats 4000000 in
set_option maxRecDepth 100000 in
theorem w_X11_lays_14 {p : Program} {l : Launch} {e : Env} {s : State} {m : MethodId} {args : Array Value} {below : List Frame} {meth : Method} {c : Code} {dC : Nat → ClassId} {dI : Nat → Nat → Nat} {A : Nat → Prop} {h : Nat} {ad : Nat → Nat} {cI cZ cJ : ClassId} {res : ql_Z} (C0 : ql_C p s m args meth c cX11_lays 4 none wsX11_lays RX11 (dC, dI) [(cI, .int), (cZ, .boolean), (cJ, .long)] A) (N : Nat) (k2 : ql_Z → Int32 → Int32 → Option (ql_Z)) (hk2 : ∀ (z : ql_Z) (x1 : Int32) (x2 : Int32), k2 z x1 x2 = some res → ∀ (H : Heap) (locs : List Loc) (ls : Array Slot), va_P (dC, dI) vwCl ((ql_mw h ad cI cZ cJ) z) H → va_D A ((ql_mw h ad cI cZ cJ) z) → va_S A s.heap H locs → lv_has ls 4 [(0, .ref h), (1, .int x1), (2, .int x2)] → W p l e rm_X11_lays s m args below meth c H locs 0 0 (ql_Qv below (dC, dI) (ql_mw h ad cI cZ cJ) A args s res) (F0 m 2 ls [])) : ∀ (n : Nat), ∀ (z : ql_Z) (x1 : Int32) (x2 : Int32) (x3 : Int32), f_X11_lays_14 N k2 n z x1 x2 x3 = some res → ∀ (H : Heap) (locs : List Loc) (ls : Array Slot), va_P (dC, dI) vwCl ((ql_mw h ad cI cZ cJ) z) H → va_D A ((ql_mw h ad cI cZ cJ) z) → va_S A s.heap H locs → lv_has ls 4 [(0, .ref h), (1, .int x1), (2, .int x2), (3, .int x3)] → W p l e rm_X11_lays s m args below meth c H locs 0 0 (ql_Qv below (dC, dI) (ql_mw h ad cI cZ cJ) A args s res) (F0 m 14 ls []) := by
  have C0q := C0
  obtain ⟨hx, hb, hr, hml, hown, hts, hlocks, hK, hA⟩ := C0q
  have fl43 := hts (Cond.fieldLink RX11 43 "TestedLoopsModel" "table" "[I") (by decide +kernel)
  have fl28 := hts (Cond.fieldLink RX11 28 "TestedLoopsModel" "behind" "[I") (by decide +kernel)
  intro n
  induction n with
  | zero =>
    intro z x1 x2 x3 hf
    rw [f_X11_lays_14] at hf
    cases hf
  | succ n ih =>
    intro z x1 x2 x3 hf H locs ls hP hD hS hl
    rw [f_X11_lays_14] at hf
    refine lv_iload_n hx hb dX11_lays_14 rfl (lv_at hl 3 rfl) ?_
    refine lv_iconst (v := 4) hx hb dX11_lays_15 (by decide) ?_
    refine lv_icmp_ge (tgt := 65) hx hb dX11_lays_16 (by decide) (fun c2 => ?_) (fun c2 => ?_)
    · have hf := (if_pos c2).symm.trans hf
      refine lv_iinc (v := (x2 + 1)) (lv' := [(2, .int (x2 + 1)), (0, .ref h), (1, .int x1), (3, .int x3)]) hx hb dX11_lays_65 hl (k := 2) rfl rfl (by decide) rfl (fun ls hl => ?_)
      refine lv_goto (tgt := 2) hx hb dX11_lays_68 (by decide) ?_
      exact hk2 _ _ _ hf _ _ _ hP hD hS (lv_sub hl [1, 2, 0] rfl)
    · have hf := (if_neg c2).symm.trans hf
      refine lv_aload_n hx hb dX11_lays_19 rfl (lv_at hl 0 rfl) ?_
      refine va_get (D := (dC, dI)) (ci := 11) (v := .ref (ad 13)) (C := RX11) (T := TX11) (N := 41) hx hb hts iw_X11_lays_X11 hown hK.1 hP 0 rfl rfl 13 (by decide) fl43 (fun _ h9 => h9) rfl dX11_lays_20 ?_
      refine lv_bipush (v := 68) hx hb dX11_lays_23 (by decide) ?_
      refine lv_iload_n hx hb dX11_lays_25 rfl (lv_at hl 1 rfl) ?_
      refine lv_imul hx hb dX11_lays_26 ?_
      refine lv_iconst (v := 4) hx hb dX11_lays_27 (by decide) ?_
      refine lv_iload_n hx hb dX11_lays_28 rfl (lv_at hl 2 rfl) ?_
      refine lv_imul hx hb dX11_lays_29 ?_
      refine lv_iadd hx hb dX11_lays_30 ?_
      refine lv_iload_n hx hb dX11_lays_31 rfl (lv_at hl 3 rfl) ?_
      refine lv_iadd hx hb dX11_lays_32 ?_
      refine lv_aload_n hx hb dX11_lays_33 rfl (lv_at hl 0 rfl) ?_
      refine lv_iload_n hx hb dX11_lays_34 rfl (lv_at hl 1 rfl) ?_
      refine lv_iload_n hx hb dX11_lays_35 rfl (lv_at hl 2 rfl) ?_
      refine lv_if_ne (tgt := 43) hx hb dX11_lays_36 (by decide) (fun c3 => ?_) (fun c3 => ?_)
      · have hf := (if_neg c3).symm.trans hf
        refine lv_aload_n hx hb dX11_lays_43 rfl (lv_at hl 0 rfl) ?_
        refine va_get (D := (dC, dI)) (ci := 11) (v := .ref (ad 8)) (C := RX11) (T := TX11) (N := 41) hx hb hts iw_X11_lays_X11 hown hK.1 hP 0 rfl rfl 8 (by decide) fl28 (fun _ h9 => h9) rfl dX11_lays_44 ?_
        refine lv_bipush (v := 17) hx hb dX11_lays_47 (by decide) ?_
        refine lv_iload_n hx hb dX11_lays_49 rfl (lv_at hl 1 rfl) ?_
        refine lv_imul hx hb dX11_lays_50 ?_
        refine lv_iload_n hx hb dX11_lays_51 rfl (lv_at hl 2 rfl) ?_
        refine lv_iadd hx hb dX11_lays_52 ?_
        have g0 := ql_in (ql_gt hf)
        have hf := ql_gx hf
        refine va_iald (f := (z.1 8)) hx hb hK.1 hP 7 0 rfl rfl g0 dX11_lays_53 ?_
        exact w_X11_lays_54 C0 N k2 hk2 (f_X11_lays_14 N k2 n) ih _ _ _ _ _ _ _ hf _ _ _ hP hD hS (lv_sub hl [0, 1, 2, 3] rfl)
      · have hf := (if_pos c3).symm.trans hf
        refine lv_iconst (v := 0) hx hb dX11_lays_39 (by decide) ?_
        refine lv_goto (tgt := 54) hx hb dX11_lays_40 (by decide) ?_
        exact w_X11_lays_54 C0 N k2 hk2 (f_X11_lays_14 N k2 n) ih _ _ _ _ _ _ _ hf _ _ _ hP hD hS (lv_sub hl [0, 1, 2, 3] rfl)
set_option maxHeartbeats 4000000 in
set_option maxRecDepth 100000 in
theorem w_X11_lays_2 {p : Program} {l : Launch} {e : Env} {s : State} {m : MethodId} {args : Array Value} {below : List Frame} {meth : Method} {c : Code} {dC : Nat → ClassId} {dI : Nat → Nat → Nat} {A : Nat → Prop} {h : Nat} {ad : Nat → Nat} {cI cZ cJ : ClassId} {res : ql_Z} (C0 : ql_C p s m args meth c cX11_lays 4 none wsX11_lays RX11 (dC, dI) [(cI, .int), (cZ, .boolean), (cJ, .long)] A) (N : Nat) : ∀ (n : Nat), ∀ (z : ql_Z) (x1 : Int32) (x2 : Int32), f_X11_lays_2 N n z x1 x2 = some res → ∀ (H : Heap) (locs : List Loc) (ls : Array Slot), va_P (dC, dI) vwCl ((ql_mw h ad cI cZ cJ) z) H → va_D A ((ql_mw h ad cI cZ cJ) z) → va_S A s.heap H locs → lv_has ls 4 [(0, .ref h), (1, .int x1), (2, .int x2)] → W p l e rm_X11_lays s m args below meth c H locs 0 0 (ql_Qv below (dC, dI) (ql_mw h ad cI cZ cJ) A args s res) (F0 m 2 ls []) := by
  have C0q := C0
  obtain ⟨hx, hb, hr, hml, hown, hts, hlocks, hK, hA⟩ := C0q
  have fl31 := hts (Cond.fieldLink RX11 31 "TestedLoopsModel" "many" "[I") (by decide +kernel)
  intro n
  induction n with
  | zero =>
    intro z x1 x2 hf
    rw [f_X11_lays_2] at hf
    cases hf
  | succ n ih =>
    intro z x1 x2 hf H locs ls hP hD hS hl
    rw [f_X11_lays_2] at hf
    refine lv_iload_n hx hb dX11_lays_2 rfl (lv_at hl 2 rfl) ?_
    refine lv_aload_n hx hb dX11_lays_3 rfl (lv_at hl 0 rfl) ?_
    refine va_get (D := (dC, dI)) (ci := 11) (v := .ref (ad 9)) (C := RX11) (T := TX11) (N := 41) hx hb hts iw_X11_lays_X11 hown hK.1 hP 0 rfl rfl 9 (by decide) fl31 (fun _ h9 => h9) rfl dX11_lays_4 ?_
    refine lv_iload_n hx hb dX11_lays_7 rfl (lv_at hl 1 rfl) ?_
    have g0 := ql_in (ql_gt hf)
    have hf := ql_gx hf
    refine va_iald (f := (z.1 9)) hx hb hK.1 hP 8 0 rfl rfl g0 dX11_lays_8 ?_
    refine lv_icmp_gt (tgt := 71) hx hb dX11_lays_9 (by decide) (fun c4 => ?_) (fun c4 => ?_)
    · have hf := (if_pos c4).symm.trans hf
      exact ql_vret C0 hf hP hD hS dX11_lays_71
    · have hf := (if_neg c4).symm.trans hf
      refine lv_iconst (v := 0) hx hb dX11_lays_12 (by decide) ?_
      refine lv_istore_n (lv' := [(3, .int 0), (0, .ref h), (1, .int x1), (2, .int x2)]) hx hb dX11_lays_13 rfl hl (by decide) rfl (fun ls hl => ?_)
      exact w_X11_lays_14 C0 N (f_X11_lays_2 N n) ih N _ _ _ _ hf _ _ _ hP hD hS (lv_sub hl [1, 2, 3, 0] rfl)
set_option maxHeartbeats 4000000 in
set_option maxRecDepth 100000 in
theorem w_X11_lays_0 {p : Program} {l : Launch} {e : Env} {s : State} {m : MethodId} {args : Array Value} {below : List Frame} {meth : Method} {c : Code} {dC : Nat → ClassId} {dI : Nat → Nat → Nat} {A : Nat → Prop} {h : Nat} {ad : Nat → Nat} {cI cZ cJ : ClassId} {res : ql_Z} (C0 : ql_C p s m args meth c cX11_lays 4 none wsX11_lays RX11 (dC, dI) [(cI, .int), (cZ, .boolean), (cJ, .long)] A) (N : Nat) : ∀ (z : ql_Z) (x1 : Int32), f_X11_lays_0 N z x1 = some res → ∀ (H : Heap) (locs : List Loc) (ls : Array Slot), va_P (dC, dI) vwCl ((ql_mw h ad cI cZ cJ) z) H → va_D A ((ql_mw h ad cI cZ cJ) z) → va_S A s.heap H locs → lv_has ls 4 [(0, .ref h), (1, .int x1)] → W p l e rm_X11_lays s m args below meth c H locs 0 0 (ql_Qv below (dC, dI) (ql_mw h ad cI cZ cJ) A args s res) (F0 m 0 ls []) := by
  have C0q := C0
  obtain ⟨hx, hb, hr, hml, hown, hts, hlocks, hK, hA⟩ := C0q
  intro z x1 hf H locs ls hP hD hS hl
  unfold f_X11_lays_0 at hf
  refine lv_iconst (v := 0) hx hb dX11_lays_0 (by decide) ?_
  refine lv_istore_n (lv' := [(2, .int 0), (0, .ref h), (1, .int x1)]) hx hb dX11_lays_1 rfl hl (by decide) rfl (fun ls hl => ?_)
  exact w_X11_lays_2 C0 N N _ _ _ hf _ _ _ hP hD hS (lv_sub hl [1, 2, 0] rfl)
set_option maxRecDepth 100000 in
theorem c_X11_lays (l : Launch) (dC : Nat → ClassId) (dI : Nat → Nat → Nat) (h : Nat) (ad : Nat → Nat) (cI cZ cJ : ClassId) (N : Nat) (z : ql_Z) (x1 : Int32) (res : ql_Z) (hf : f_X11_lays N z x1 = some res) : ql_Mv l yX11_lays wsX11_lays rm_X11_lays (dC, dI) [(cI, .int), (cZ, .boolean), (cJ, .long)] (ql_mw h ad cI cZ cJ) [.ref h, .int x1] z res :=
  ql_start_v (by decide) rfl (Nat.le_of_ble_eq_true rfl) (fun p e s m below meth c A ls C0 hl hP hD hS => w_X11_lays_0 C0 N z x1 hf s.heap [] ls hP hD hS (lv_sub (show lv_has ls 4 [(0, .ref h), (1, .int x1)] from hl) [0, 1] rfl))
/-! ===== TestedLoopsModel.program(I)I ===== -/
abbrev rm_X11_program : Room := { frames := 7, cells := 0, slots := 0, locals := 152 }
theorem iw_X11_program_X11 : ∀ w ∈ wsX110, w ∈ wsX11_program := fun w h => List.mem_cons_of_mem _ (List.mem_append_right _ h)
theorem qv_X11_program : yX11_program.cls = RX11 ∧ yX11_program.cls ≠ "java/lang/invoke/MethodHandle" ∧ yX11_program.cls ≠ "java/lang/invoke/VarHandle" ∧ (parseMethodDescriptor yX11_program.desc).map (fun d => d.parameters.length) = some 1 := by decide +kernel
def f_X11_program_0 (N : Nat) (z : ql_Z) (x1 : Int32) : Option (Int32 × ql_Z) := (f_X11_isProgram N x1).bind fun u1 => if u1 = 0 then some ((-1), z) else (f_X11_reads N z).bind fun u3 => if u3.1 = 0 then some (((-10) - (u3.2.1 16 0)), u3.2) else (f_X11_moves N ((ql_up u3.2.1 2 (fun _ => 0)), u3.2.2) x1).bind fun u5 => (f_X11_lays N u5 x1).bind fun u6 => if ql_ib x1 5 = true then some (((u6.1 9) x1.toNatClampNeg), u6) else none
def f_X11_program (N : Nat) (z : ql_Z) (x1 : Int32) : Option (Int32 × ql_Z) := f_X11_program_0 N z x1
set_option maxHeartbeats 4000000 in
set_option maxRecDepth 100000 in
theorem w_X11_program_0 {p : Program} {l : Launch} {e : Env} {s : State} {m : MethodId} {args : Array Value} {below : List Frame} {meth : Method} {c : Code} {dC : Nat → ClassId} {dI : Nat → Nat → Nat} {A : Nat → Prop} {h : Nat} {ad : Nat → Nat} {cI cZ cJ : ClassId} {res : Int32 × ql_Z} (C0 : ql_C p s m args meth c cX11_program 2 (some .int) wsX11_program RX11 (dC, dI) [(cI, .int), (cZ, .boolean), (cJ, .long)] A) (N : Nat) : ∀ (z : ql_Z) (x1 : Int32), f_X11_program_0 N z x1 = some res → ∀ (H : Heap) (locs : List Loc) (ls : Array Slot), va_P (dC, dI) vwCl ((ql_mw h ad cI cZ cJ) z) H → va_D A ((ql_mw h ad cI cZ cJ) z) → va_S A s.heap H locs → lv_has ls 2 [(0, .ref h), (1, .int x1)] → W p l e rm_X11_program s m args below meth c H locs 0 0 (ql_Qi below (dC, dI) (ql_mw h ad cI cZ cJ) A args s res) (F0 m 0 ls []) := by
  have C0q := C0
  obtain ⟨hx, hb, hr, hml, hown, hts, hlocks, hK, hA⟩ := C0q
  have fl105 := hts (Cond.fieldLink RX11 105 "TestedLoopsModel" "typed" "I") (by decide +kernel)
  have fl31 := hts (Cond.fieldLink RX11 31 "TestedLoopsModel" "many" "[I") (by decide +kernel)
  have fl117 := hts (Cond.fieldLink RX11 117 "TestedLoopsModel" "start" "I") (by decide +kernel)
  intro z x1 hf H locs ls hP hD hS hl
  unfold f_X11_program_0 at hf
  refine lv_iload_n hx hb dX11_program_0 rfl (lv_at hl 1 rfl) ?_
  obtain ⟨u1, hu1, hf⟩ := ql_bd hf
  refine ql_callRSi (As := [.int x1]) (rest := []) C0 (c_X11_isProgram l dC dI N x1 u1 hu1) (va_cwS 1 hts gX11_program_X11_isProgram rfl rfl rfl qd_X11_isProgram ⟨Nat.le_of_ble_eq_true rfl, Nat.le_of_ble_eq_true rfl⟩) (hK.sub [] rfl) ql_nil hS hl.1 rfl rfl (Nat.le_of_ble_eq_true rfl) dX11_program_1 (fun H1 locs hk hS => ?_)
  have hP := ql_keep hP hk
  refine lv_if_ne (tgt := 9) hx hb dX11_program_4 (by decide) (fun c2 => ?_) (fun c2 => ?_)
  · have hf := (if_neg c2).symm.trans hf
    refine lv_aload_n hx hb dX11_program_9 rfl (lv_at hl 0 rfl) ?_
    obtain ⟨u3, hu3, hf⟩ := ql_bd hf
    refine ql_callVi (As := []) (rest := []) C0 (c_X11_reads l dC dI h ad cI cZ cJ N z u3 hu3) (cwV 0 hts gX11_program_X11_reads rfl rfl rfl qv_X11_reads ⟨Nat.le_of_ble_eq_true rfl, Nat.le_of_ble_eq_true rfl⟩) (va_recv hK.1 hP (ci := 11) (q0 := 0) rfl rfl) hP hD hS hl.1 rfl rfl (Nat.le_of_ble_eq_true rfl) dX11_program_10 (fun H locs hP hD hS => ?_)
    refine lv_if_ne (tgt := 24) hx hb dX11_program_13 (by decide) (fun c4 => ?_) (fun c4 => ?_)
    · have hf := (if_neg c4).symm.trans hf
      refine lv_aload_n hx hb dX11_program_24 rfl (lv_at hl 0 rfl) ?_
      refine lv_iconst (v := 0) hx hb dX11_program_25 (by decide) ?_
      refine va_put (D := (dC, dI)) (ci := 11) (v := .int 0) (ty := .int) (C := RX11) (T := TX11) (N := 41) hx hb hts iw_X11_program_X11 tyX11 tyX11_ok nmX11 hown hK.1 hP hD hS 0 rfl rfl 2 (by decide) fl105 (fun _ h9 => h9) rfl (by decide +kernel) rfl rfl (Nat.le_of_ble_eq_true rfl) dX11_program_26 (fun H locs hP hD hS => ?_)
      refine lv_aload_n hx hb dX11_program_29 rfl (lv_at hl 0 rfl) ?_
      refine lv_iload_n hx hb dX11_program_30 rfl (lv_at hl 1 rfl) ?_
      obtain ⟨u5, hu5, hf⟩ := ql_bd hf
      refine ql_callVv (As := [.int x1]) (rest := []) C0 (c_X11_moves l dC dI h ad cI cZ cJ N ((ql_up u3.2.1 2 (fun _ => 0)), u3.2.2) x1 u5 hu5) (cwV 1 hts gX11_program_X11_moves rfl rfl rfl qv_X11_moves ⟨Nat.le_of_ble_eq_true rfl, Nat.le_of_ble_eq_true rfl⟩) (va_recv hK.1 hP (ci := 11) (q0 := 0) rfl rfl) hP hD hS hl.1 rfl rfl (Nat.le_of_ble_eq_true rfl) dX11_program_31 (fun H locs hP hD hS => ?_)
      refine lv_aload_n hx hb dX11_program_34 rfl (lv_at hl 0 rfl) ?_
      refine lv_iload_n hx hb dX11_program_35 rfl (lv_at hl 1 rfl) ?_
      obtain ⟨u6, hu6, hf⟩ := ql_bd hf
      refine ql_callVv (As := [.int x1]) (rest := []) C0 (c_X11_lays l dC dI h ad cI cZ cJ N u5 x1 u6 hu6) (cwV 1 hts gX11_program_X11_lays rfl rfl rfl qv_X11_lays ⟨Nat.le_of_ble_eq_true rfl, Nat.le_of_ble_eq_true rfl⟩) (va_recv hK.1 hP (ci := 11) (q0 := 0) rfl rfl) hP hD hS hl.1 rfl rfl (Nat.le_of_ble_eq_true rfl) dX11_program_36 (fun H locs hP hD hS => ?_)
      refine lv_aload_n hx hb dX11_program_39 rfl (lv_at hl 0 rfl) ?_
      refine va_get (D := (dC, dI)) (ci := 11) (v := .ref (ad 9)) (C := RX11) (T := TX11) (N := 41) hx hb hts iw_X11_program_X11 hown hK.1 hP 0 rfl rfl 9 (by decide) fl31 (fun _ h9 => h9) rfl dX11_program_40 ?_
      refine lv_iload_n hx hb dX11_program_43 rfl (lv_at hl 1 rfl) ?_
      have g0 := ql_in (ql_gt hf)
      have hf := ql_gx hf
      refine va_iald (f := (u6.1 9)) hx hb hK.1 hP 8 0 rfl rfl g0 dX11_program_44 ?_
      exact ql_iret C0 hf hP hD hS dX11_program_45
    · have hf := (if_pos c4).symm.trans hf
      refine lv_bipush (v := (-10)) hx hb dX11_program_16 (by decide) ?_
      refine lv_aload_n hx hb dX11_program_18 rfl (lv_at hl 0 rfl) ?_
      refine va_get (D := (dC, dI)) (ci := 11) (v := .int (u3.2.1 16 0)) (C := RX11) (T := TX11) (N := 41) hx hb hts iw_X11_program_X11 hown hK.1 hP 0 rfl rfl 16 (by decide) fl117 (fun _ h9 => h9) rfl dX11_program_19 ?_
      refine lv_isub hx hb dX11_program_22 ?_
      exact ql_iret C0 hf hP hD hS dX11_program_23
  · have hf := (if_pos c2).symm.trans hf
    refine lv_iconst (v := (-1)) hx hb dX11_program_7 (by decide) ?_
    exact ql_iret C0 hf hP hD hS dX11_program_8
set_option maxRecDepth 100000 in
theorem c_X11_program (l : Launch) (dC : Nat → ClassId) (dI : Nat → Nat → Nat) (h : Nat) (ad : Nat → Nat) (cI cZ cJ : ClassId) (N : Nat) (z : ql_Z) (x1 : Int32) (res : Int32 × ql_Z) (hf : f_X11_program N z x1 = some res) : ql_Mi l yX11_program wsX11_program rm_X11_program (dC, dI) [(cI, .int), (cZ, .boolean), (cJ, .long)] (ql_mw h ad cI cZ cJ) [.ref h, .int x1] z res :=
  ql_start_i (by decide) rfl (Nat.le_of_ble_eq_true rfl) (fun p e s m below meth c A ls C0 hl hP hD hS => w_X11_program_0 C0 N z x1 hf s.heap [] ls hP hD hS (lv_sub (show lv_has ls 2 [(0, .ref h), (1, .int x1)] from hl) [0, 1] rfl))
/-! ===== TestedLoopsModel.to(III)I ===== -/
abbrev rm_X11_to : Room := { frames := 0, cells := 0, slots := 0, locals := 0 }
theorem iw_X11_to_X11 : ∀ w ∈ wsX110, w ∈ wsX11_to := fun w h => List.mem_cons_of_mem _ (List.mem_append_right _ h)
theorem qv_X11_to : yX11_to.cls = RX11 ∧ yX11_to.cls ≠ "java/lang/invoke/MethodHandle" ∧ yX11_to.cls ≠ "java/lang/invoke/VarHandle" ∧ (parseMethodDescriptor yX11_to.desc).map (fun d => d.parameters.length) = some 3 := by decide +kernel
def f_X11_to_0 (N : Nat) (z : ql_Z) (x1 : Int32) (x2 : Int32) (x3 : Int32) : Option (Int32) := if ql_ib (((68 * x1) + (4 * x2)) + x3) 272 = true then some ((z.1 13) (((68 * x1) + (4 * x2)) + x3).toNatClampNeg) else none
def f_X11_to (N : Nat) (z : ql_Z) (x1 : Int32) (x2 : Int32) (x3 : Int32) : Option (Int32) := f_X11_to_0 N z x1 x2 x3
set_option maxHeartbeats 4000000 in
set_option maxRecDepth 100000 in
theorem w_X11_to_0 {p : Program} {l : Launch} {e : Env} {s : State} {m : MethodId} {args : Array Value} {below : List Frame} {meth : Method} {c : Code} {dC : Nat → ClassId} {dI : Nat → Nat → Nat} {A : Nat → Prop} {h : Nat} {ad : Nat → Nat} {cI cZ cJ : ClassId} {res : Int32} (C0 : ql_C p s m args meth c cX11_to 4 (some .int) wsX11_to RX11 (dC, dI) [(cI, .int), (cZ, .boolean), (cJ, .long)] A) (N : Nat) (z : ql_Z) : ∀ (x1 : Int32) (x2 : Int32) (x3 : Int32), f_X11_to_0 N z x1 x2 x3 = some res → ∀ (H : Heap) (locs : List Loc) (ls : Array Slot), va_P (dC, dI) vwCl ((ql_mw h ad cI cZ cJ) z) H → va_S A s.heap H locs → lv_has ls 4 [(0, .ref h), (1, .int x1), (2, .int x2), (3, .int x3)] → W p l e rm_X11_to s m args below meth c H locs 0 0 (ql_Qri below A args s res) (F0 m 0 ls []) := by
  have C0q := C0
  obtain ⟨hx, hb, hr, hml, hown, hts, hlocks, hK, hA⟩ := C0q
  have fl43 := hts (Cond.fieldLink RX11 43 "TestedLoopsModel" "table" "[I") (by decide +kernel)
  intro x1 x2 x3 hf H locs ls hP hS hl
  unfold f_X11_to_0 at hf
  refine lv_aload_n hx hb dX11_to_0 rfl (lv_at hl 0 rfl) ?_
  refine va_get (D := (dC, dI)) (ci := 11) (v := .ref (ad 13)) (C := RX11) (T := TX11) (N := 41) hx hb hts iw_X11_to_X11 hown hK.1 hP 0 rfl rfl 13 (by decide) fl43 (fun _ h9 => h9) rfl dX11_to_1 ?_
  refine lv_bipush (v := 68) hx hb dX11_to_4 (by decide) ?_
  refine lv_iload_n hx hb dX11_to_6 rfl (lv_at hl 1 rfl) ?_
  refine lv_imul hx hb dX11_to_7 ?_
  refine lv_iconst (v := 4) hx hb dX11_to_8 (by decide) ?_
  refine lv_iload_n hx hb dX11_to_9 rfl (lv_at hl 2 rfl) ?_
  refine lv_imul hx hb dX11_to_10 ?_
  refine lv_iadd hx hb dX11_to_11 ?_
  refine lv_iload_n hx hb dX11_to_12 rfl (lv_at hl 3 rfl) ?_
  refine lv_iadd hx hb dX11_to_13 ?_
  have g0 := ql_in (ql_gt hf)
  have hf := ql_gx hf
  refine va_iald (f := (z.1 13)) hx hb hK.1 hP 12 0 rfl rfl g0 dX11_to_14 ?_
  exact ql_riret C0 hf hS dX11_to_15
set_option maxRecDepth 100000 in
theorem c_X11_to (l : Launch) (dC : Nat → ClassId) (dI : Nat → Nat → Nat) (h : Nat) (ad : Nat → Nat) (cI cZ cJ : ClassId) (N : Nat) (z : ql_Z) (x1 : Int32) (x2 : Int32) (x3 : Int32) (res : Int32) (hf : f_X11_to N z x1 x2 x3 = some res) : ql_Ri l yX11_to wsX11_to rm_X11_to (dC, dI) [(cI, .int), (cZ, .boolean), (cJ, .long)] ((ql_mw h ad cI cZ cJ) z) [.ref h, .int x1, .int x2, .int x3] res :=
  ql_start_ri (by decide) rfl (Nat.le_of_ble_eq_true rfl) (fun p e s m below meth c A ls C0 hl hP hS => w_X11_to_0 C0 N z x1 x2 x3 hf s.heap [] ls hP hS (lv_sub (show lv_has ls 4 [(0, .ref h), (1, .int x1), (2, .int x2), (3, .int x3)] from hl) [0, 1, 2, 3] rfl))
/-! ===== TestedLoopsModel.actOf(II)I ===== -/
abbrev rm_X11_actOf : Room := { frames := 0, cells := 0, slots := 0, locals := 0 }
theorem iw_X11_actOf_X11 : ∀ w ∈ wsX110, w ∈ wsX11_actOf := fun w h => List.mem_cons_of_mem _ (List.mem_append_right _ h)
theorem qv_X11_actOf : yX11_actOf.cls = RX11 ∧ yX11_actOf.cls ≠ "java/lang/invoke/MethodHandle" ∧ yX11_actOf.cls ≠ "java/lang/invoke/VarHandle" ∧ (parseMethodDescriptor yX11_actOf.desc).map (fun d => d.parameters.length) = some 2 := by decide +kernel
def f_X11_actOf_0 (N : Nat) (z : ql_Z) (x1 : Int32) (x2 : Int32) : Option (Int32) := if x2 ≤ 0 then some 0 else if ql_ib ((17 * x1) + x2) 85 = true then some ((z.1 7) ((17 * x1) + x2).toNatClampNeg) else none
def f_X11_actOf (N : Nat) (z : ql_Z) (x1 : Int32) (x2 : Int32) : Option (Int32) := f_X11_actOf_0 N z x1 x2
set_option maxHeartbeats 4000000 in
set_option maxRecDepth 100000 in
theorem w_X11_actOf_0 {p : Program} {l : Launch} {e : Env} {s : State} {m : MethodId} {args : Array Value} {below : List Frame} {meth : Method} {c : Code} {dC : Nat → ClassId} {dI : Nat → Nat → Nat} {A : Nat → Prop} {h : Nat} {ad : Nat → Nat} {cI cZ cJ : ClassId} {res : Int32} (C0 : ql_C p s m args meth c cX11_actOf 3 (some .int) wsX11_actOf RX11 (dC, dI) [(cI, .int), (cZ, .boolean), (cJ, .long)] A) (N : Nat) (z : ql_Z) : ∀ (x1 : Int32) (x2 : Int32), f_X11_actOf_0 N z x1 x2 = some res → ∀ (H : Heap) (locs : List Loc) (ls : Array Slot), va_P (dC, dI) vwCl ((ql_mw h ad cI cZ cJ) z) H → va_S A s.heap H locs → lv_has ls 3 [(0, .ref h), (1, .int x1), (2, .int x2)] → W p l e rm_X11_actOf s m args below meth c H locs 0 0 (ql_Qri below A args s res) (F0 m 0 ls []) := by
  have C0q := C0
  obtain ⟨hx, hb, hr, hml, hown, hts, hlocks, hK, hA⟩ := C0q
  have fl25 := hts (Cond.fieldLink RX11 25 "TestedLoopsModel" "acts" "[I") (by decide +kernel)
  intro x1 x2 hf H locs ls hP hS hl
  unfold f_X11_actOf_0 at hf
  refine lv_iload_n hx hb dX11_actOf_0 rfl (lv_at hl 2 rfl) ?_
  refine lv_if_le (tgt := 18) hx hb dX11_actOf_1 (by decide) (fun c1 => ?_) (fun c1 => ?_)
  · have hf := (if_pos c1).symm.trans hf
    refine lv_iconst (v := 0) hx hb dX11_actOf_18 (by decide) ?_
    exact ql_riret C0 hf hS dX11_actOf_19
  · have hf := (if_neg c1).symm.trans hf
    refine lv_aload_n hx hb dX11_actOf_4 rfl (lv_at hl 0 rfl) ?_
    refine va_get (D := (dC, dI)) (ci := 11) (v := .ref (ad 7)) (C := RX11) (T := TX11) (N := 41) hx hb hts iw_X11_actOf_X11 hown hK.1 hP 0 rfl rfl 7 (by decide) fl25 (fun _ h9 => h9) rfl dX11_actOf_5 ?_
    refine lv_bipush (v := 17) hx hb dX11_actOf_8 (by decide) ?_
    refine lv_iload_n hx hb dX11_actOf_10 rfl (lv_at hl 1 rfl) ?_
    refine lv_imul hx hb dX11_actOf_11 ?_
    refine lv_iload_n hx hb dX11_actOf_12 rfl (lv_at hl 2 rfl) ?_
    refine lv_iadd hx hb dX11_actOf_13 ?_
    have g0 := ql_in (ql_gt hf)
    have hf := ql_gx hf
    refine va_iald (f := (z.1 7)) hx hb hK.1 hP 6 0 rfl rfl g0 dX11_actOf_14 ?_
    refine lv_goto (tgt := 19) hx hb dX11_actOf_15 (by decide) ?_
    exact ql_riret C0 hf hS dX11_actOf_19
set_option maxRecDepth 100000 in
theorem c_X11_actOf (l : Launch) (dC : Nat → ClassId) (dI : Nat → Nat → Nat) (h : Nat) (ad : Nat → Nat) (cI cZ cJ : ClassId) (N : Nat) (z : ql_Z) (x1 : Int32) (x2 : Int32) (res : Int32) (hf : f_X11_actOf N z x1 x2 = some res) : ql_Ri l yX11_actOf wsX11_actOf rm_X11_actOf (dC, dI) [(cI, .int), (cZ, .boolean), (cJ, .long)] ((ql_mw h ad cI cZ cJ) z) [.ref h, .int x1, .int x2] res :=
  ql_start_ri (by decide) rfl (Nat.le_of_ble_eq_true rfl) (fun p e s m below meth c A ls C0 hl hP hS => w_X11_actOf_0 C0 N z x1 x2 hf s.heap [] ls hP hS (lv_sub (show lv_has ls 3 [(0, .ref h), (1, .int x1), (2, .int x2)] from hl) [0, 1, 2] rfl))
/-! ===== TestedLoopsModel.next(IIII)I ===== -/
abbrev rm_X11_next : Room := { frames := 2, cells := 0, slots := 0, locals := 45 }
theorem iw_X11_next_X11 : ∀ w ∈ wsX110, w ∈ wsX11_next := fun w h => List.mem_cons_of_mem _ (List.mem_append_right _ h)
theorem qv_X11_next : yX11_next.cls = RX11 ∧ yX11_next.cls ≠ "java/lang/invoke/MethodHandle" ∧ yX11_next.cls ≠ "java/lang/invoke/VarHandle" ∧ (parseMethodDescriptor yX11_next.desc).map (fun d => d.parameters.length) = some 4 := by decide +kernel
def f_X11_next_0 (N : Nat) (z : ql_Z) (x1 : Int32) (x2 : Int32) (x3 : Int32) (x4 : Int32) : Option (Int32) := (f_X11_isProgram N x1).bind fun u1 => if u1 = 0 then some (-1) else if ql_ib x1 5 = true then (f_X11_in N x2.toInt64 0 (((z.1 9) x1.toNatClampNeg).toInt64)).bind fun u3 => if u3 = 0 then some (-1) else (f_X11_isAtom N x3).bind fun u5 => if u5 = 0 then some (-1) else (f_X11_in N x4.toInt64 0 1).bind fun u7 => if u7 = 0 then some (-1) else (f_X11_to N z x1 x2 x3).bind fun u9 => if x4 = 1 then (f_X11_actOf N z x1 u9).bind fun u12 => some u12 else if 0 ≤ u9 then some u9 else some (-9) else none
def f_X11_next (N : Nat) (z : ql_Z) (x1 : Int32) (x2 : Int32) (x3 : Int32) (x4 : Int32) : Option (Int32) := f_X11_next_0 N z x1 x2 x3 x4
set_option maxHeartbeats 4000000 in
set_option maxRecDepth 100000 in
theorem w_X11_next_0 {p : Program} {l : Launch} {e : Env} {s : State} {m : MethodId} {args : Array Value} {below : List Frame} {meth : Method} {c : Code} {dC : Nat → ClassId} {dI : Nat → Nat → Nat} {A : Nat → Prop} {h : Nat} {ad : Nat → Nat} {cI cZ cJ : ClassId} {res : Int32} (C0 : ql_C p s m args meth c cX11_next 6 (some .int) wsX11_next RX11 (dC, dI) [(cI, .int), (cZ, .boolean), (cJ, .long)] A) (N : Nat) (z : ql_Z) : ∀ (x1 : Int32) (x2 : Int32) (x3 : Int32) (x4 : Int32), f_X11_next_0 N z x1 x2 x3 x4 = some res → ∀ (H : Heap) (locs : List Loc) (ls : Array Slot), va_P (dC, dI) vwCl ((ql_mw h ad cI cZ cJ) z) H → va_S A s.heap H locs → lv_has ls 6 [(0, .ref h), (1, .int x1), (2, .int x2), (3, .int x3), (4, .int x4)] → W p l e rm_X11_next s m args below meth c H locs 0 0 (ql_Qri below A args s res) (F0 m 0 ls []) := by
  have C0q := C0
  obtain ⟨hx, hb, hr, hml, hown, hts, hlocks, hK, hA⟩ := C0q
  have fl31 := hts (Cond.fieldLink RX11 31 "TestedLoopsModel" "many" "[I") (by decide +kernel)
  intro x1 x2 x3 x4 hf H locs ls hP hS hl
  unfold f_X11_next_0 at hf
  refine lv_iload_n hx hb dX11_next_0 rfl (lv_at hl 1 rfl) ?_
  obtain ⟨u1, hu1, hf⟩ := ql_bd hf
  refine ql_callRSi (As := [.int x1]) (rest := []) C0 (c_X11_isProgram l dC dI N x1 u1 hu1) (va_cwS 1 hts gX11_next_X11_isProgram rfl rfl rfl qd_X11_isProgram ⟨Nat.le_of_ble_eq_true rfl, Nat.le_of_ble_eq_true rfl⟩) (hK.sub [] rfl) ql_nil hS hl.1 rfl rfl (Nat.le_of_ble_eq_true rfl) dX11_next_1 (fun H1 locs hk hS => ?_)
  have hP := ql_keep hP hk
  refine lv_if_eq (tgt := 41) hx hb dX11_next_4 (by decide) (fun c2 => ?_) (fun c2 => ?_)
  · have hf := (if_pos c2).symm.trans hf
    refine lv_iconst (v := (-1)) hx hb dX11_next_41 (by decide) ?_
    exact ql_riret C0 hf hS dX11_next_42
  · have hf := (if_neg c2).symm.trans hf
    refine lv_iload_n hx hb dX11_next_7 rfl (lv_at hl 2 rfl) ?_
    refine lv_i2l hx hb dX11_next_8 rfl ?_
    refine lv_lconst (v := 0) hx hb dX11_next_9 (by decide) ?_
    refine lv_aload_n hx hb dX11_next_10 rfl (lv_at hl 0 rfl) ?_
    refine va_get (D := (dC, dI)) (ci := 11) (v := .ref (ad 9)) (C := RX11) (T := TX11) (N := 41) hx hb hts iw_X11_next_X11 hown hK.1 hP 0 rfl rfl 9 (by decide) fl31 (fun _ h9 => h9) rfl dX11_next_11 ?_
    refine lv_iload_n hx hb dX11_next_14 rfl (lv_at hl 1 rfl) ?_
    have g0 := ql_in (ql_gt hf)
    have hf := ql_gx hf
    refine va_iald (f := (z.1 9)) hx hb hK.1 hP 8 0 rfl rfl g0 dX11_next_15 ?_
    refine lv_i2l hx hb dX11_next_16 rfl ?_
    obtain ⟨u3, hu3, hf⟩ := ql_bd hf
    refine ql_callRSi (As := [.long x2.toInt64, .long 0, .long (((z.1 9) x1.toNatClampNeg).toInt64)]) (rest := []) C0 (c_X11_in l dC dI N x2.toInt64 0 (((z.1 9) x1.toNatClampNeg).toInt64) u3 hu3) (va_cwS 3 hts gX11_next_X11_in rfl rfl rfl qd_X11_in ⟨Nat.le_of_ble_eq_true rfl, Nat.le_of_ble_eq_true rfl⟩) (hK.sub [] rfl) ql_nil hS hl.1 rfl rfl (Nat.le_of_ble_eq_true rfl) dX11_next_17 (fun H1 locs hk hS => ?_)
    have hP := ql_keep hP hk
    refine lv_if_eq (tgt := 41) hx hb dX11_next_20 (by decide) (fun c4 => ?_) (fun c4 => ?_)
    · have hf := (if_pos c4).symm.trans hf
      refine lv_iconst (v := (-1)) hx hb dX11_next_41 (by decide) ?_
      exact ql_riret C0 hf hS dX11_next_42
    · have hf := (if_neg c4).symm.trans hf
      refine lv_iload_n hx hb dX11_next_23 rfl (lv_at hl 3 rfl) ?_
      obtain ⟨u5, hu5, hf⟩ := ql_bd hf
      refine ql_callRSi (As := [.int x3]) (rest := []) C0 (c_X11_isAtom l dC dI N x3 u5 hu5) (va_cwS 1 hts gX11_next_X11_isAtom rfl rfl rfl qd_X11_isAtom ⟨Nat.le_of_ble_eq_true rfl, Nat.le_of_ble_eq_true rfl⟩) (hK.sub [] rfl) ql_nil hS hl.1 rfl rfl (Nat.le_of_ble_eq_true rfl) dX11_next_24 (fun H1 locs hk hS => ?_)
      have hP := ql_keep hP hk
      refine lv_if_eq (tgt := 41) hx hb dX11_next_27 (by decide) (fun c6 => ?_) (fun c6 => ?_)
      · have hf := (if_pos c6).symm.trans hf
        refine lv_iconst (v := (-1)) hx hb dX11_next_41 (by decide) ?_
        exact ql_riret C0 hf hS dX11_next_42
      · have hf := (if_neg c6).symm.trans hf
        refine lv_iload hx hb dX11_next_30 (lv_at hl 4 rfl) ?_
        refine lv_i2l hx hb dX11_next_32 rfl ?_
        refine lv_lconst (v := 0) hx hb dX11_next_33 (by decide) ?_
        refine lv_lconst (v := 1) hx hb dX11_next_34 (by decide) ?_
        obtain ⟨u7, hu7, hf⟩ := ql_bd hf
        refine ql_callRSi (As := [.long x4.toInt64, .long 0, .long 1]) (rest := []) C0 (c_X11_in l dC dI N x4.toInt64 0 1 u7 hu7) (va_cwS 3 hts gX11_next_X11_in rfl rfl rfl qd_X11_in ⟨Nat.le_of_ble_eq_true rfl, Nat.le_of_ble_eq_true rfl⟩) (hK.sub [] rfl) ql_nil hS hl.1 rfl rfl (Nat.le_of_ble_eq_true rfl) dX11_next_35 (fun H1 locs hk hS => ?_)
        have hP := ql_keep hP hk
        refine lv_if_ne (tgt := 43) hx hb dX11_next_38 (by decide) (fun c8 => ?_) (fun c8 => ?_)
        · have hf := (if_neg c8).symm.trans hf
          refine lv_aload_n hx hb dX11_next_43 rfl (lv_at hl 0 rfl) ?_
          refine lv_iload_n hx hb dX11_next_44 rfl (lv_at hl 1 rfl) ?_
          refine lv_iload_n hx hb dX11_next_45 rfl (lv_at hl 2 rfl) ?_
          refine lv_iload_n hx hb dX11_next_46 rfl (lv_at hl 3 rfl) ?_
          obtain ⟨u9, hu9, hf⟩ := ql_bd hf
          refine ql_callRVi (As := [.int x1, .int x2, .int x3]) (rest := []) C0 (c_X11_to l dC dI h ad cI cZ cJ N z x1 x2 x3 u9 hu9) (cwV 3 hts gX11_next_X11_to rfl rfl rfl qv_X11_to ⟨Nat.le_of_ble_eq_true rfl, Nat.le_of_ble_eq_true rfl⟩) (va_recv hK.1 hP (ci := 11) (q0 := 0) rfl rfl) hK hP hS hl.1 rfl rfl (Nat.le_of_ble_eq_true rfl) dX11_next_47 (fun H1 locs hk hS => ?_)
          have hP := ql_keep hP hk
          refine lv_istore (lv' := [(5, .int u9), (0, .ref h), (1, .int x1), (2, .int x2), (3, .int x3), (4, .int x4)]) hx hb dX11_next_50 hl (by decide) rfl (fun ls hl => ?_)
          refine lv_iload hx hb dX11_next_52 (lv_at hl 5 rfl) ?_
          refine lv_iconst (v := 1) hx hb dX11_next_54 (by decide) ?_
          refine lv_icmp_ne (tgt := 68) hx hb dX11_next_55 (by decide) (fun c10 => ?_) (fun c10 => ?_)
          · have hf := (if_neg c10).symm.trans hf
            refine lv_iload hx hb dX11_next_68 (lv_at hl 0 rfl) ?_
            refine lv_if_ge (tgt := 78) hx hb dX11_next_70 (by decide) (fun c11 => ?_) (fun c11 => ?_)
            · have hf := (if_pos c11).symm.trans hf
              refine lv_iload hx hb dX11_next_78 (lv_at hl 0 rfl) ?_
              exact ql_riret C0 hf hS dX11_next_80
            · have hf := (if_neg c11).symm.trans hf
              refine lv_bipush (v := (-9)) hx hb dX11_next_73 (by decide) ?_
              refine lv_goto (tgt := 80) hx hb dX11_next_75 (by decide) ?_
              exact ql_riret C0 hf hS dX11_next_80
          · have hf := (if_pos c10).symm.trans hf
            refine lv_aload_n hx hb dX11_next_58 rfl (lv_at hl 1 rfl) ?_
            refine lv_iload_n hx hb dX11_next_59 rfl (lv_at hl 2 rfl) ?_
            refine lv_iload hx hb dX11_next_60 (lv_at hl 0 rfl) ?_
            obtain ⟨u12, hu12, hf⟩ := ql_bd hf
            refine ql_callRVi (As := [.int x1, .int u9]) (rest := []) C0 (c_X11_actOf l dC dI h ad cI cZ cJ N z x1 u9 u12 hu12) (cwV 2 hts gX11_next_X11_actOf rfl rfl rfl qv_X11_actOf ⟨Nat.le_of_ble_eq_true rfl, Nat.le_of_ble_eq_true rfl⟩) (va_recv hK.1 hP (ci := 11) (q0 := 0) rfl rfl) hK hP hS hl.1 rfl rfl (Nat.le_of_ble_eq_true rfl) dX11_next_62 (fun H1 locs hk hS => ?_)
            have hP := ql_keep hP hk
            refine lv_goto (tgt := 80) hx hb dX11_next_65 (by decide) ?_
            exact ql_riret C0 hf hS dX11_next_80
        · have hf := (if_pos c8).symm.trans hf
          refine lv_iconst (v := (-1)) hx hb dX11_next_41 (by decide) ?_
          exact ql_riret C0 hf hS dX11_next_42
set_option maxRecDepth 100000 in
theorem c_X11_next (l : Launch) (dC : Nat → ClassId) (dI : Nat → Nat → Nat) (h : Nat) (ad : Nat → Nat) (cI cZ cJ : ClassId) (N : Nat) (z : ql_Z) (x1 : Int32) (x2 : Int32) (x3 : Int32) (x4 : Int32) (res : Int32) (hf : f_X11_next N z x1 x2 x3 x4 = some res) : ql_Ri l yX11_next wsX11_next rm_X11_next (dC, dI) [(cI, .int), (cZ, .boolean), (cJ, .long)] ((ql_mw h ad cI cZ cJ) z) [.ref h, .int x1, .int x2, .int x3, .int x4] res :=
  ql_start_ri (by decide) rfl (Nat.le_of_ble_eq_true rfl) (fun p e s m below meth c A ls C0 hl hP hS => w_X11_next_0 C0 N z x1 x2 x3 x4 hf s.heap [] ls hP hS (lv_sub (show lv_has ls 6 [(0, .ref h), (1, .int x1), (2, .int x2), (3, .int x3), (4, .int x4)] from hl) [0, 1, 2, 3, 4] rfl))
/-! ===== TestedLoopsModel.act(II)I ===== -/
abbrev rm_X11_act : Room := { frames := 2, cells := 0, slots := 0, locals := 45 }
theorem iw_X11_act_X11 : ∀ w ∈ wsX110, w ∈ wsX11_act := fun w h => List.mem_cons_of_mem _ (List.mem_append_right _ h)
theorem qv_X11_act : yX11_act.cls = RX11 ∧ yX11_act.cls ≠ "java/lang/invoke/MethodHandle" ∧ yX11_act.cls ≠ "java/lang/invoke/VarHandle" ∧ (parseMethodDescriptor yX11_act.desc).map (fun d => d.parameters.length) = some 2 := by decide +kernel
def f_X11_act_0 (N : Nat) (z : ql_Z) (x1 : Int32) (x2 : Int32) : Option (Int32) := (f_X11_isProgram N x1).bind fun u1 => if u1 = 0 then some (-1) else if ql_ib x1 5 = true then (f_X11_in N x2.toInt64 1 (((z.1 9) x1.toNatClampNeg).toInt64)).bind fun u3 => if u3 = 0 then some (-1) else (f_X11_actOf N z x1 x2).bind fun u5 => some u5 else none
def f_X11_act (N : Nat) (z : ql_Z) (x1 : Int32) (x2 : Int32) : Option (Int32) := f_X11_act_0 N z x1 x2
set_option maxHeartbeats 4000000 in
set_option maxRecDepth 100000 in
theorem w_X11_act_0 {p : Program} {l : Launch} {e : Env} {s : State} {m : MethodId} {args : Array Value} {below : List Frame} {meth : Method} {c : Code} {dC : Nat → ClassId} {dI : Nat → Nat → Nat} {A : Nat → Prop} {h : Nat} {ad : Nat → Nat} {cI cZ cJ : ClassId} {res : Int32} (C0 : ql_C p s m args meth c cX11_act 3 (some .int) wsX11_act RX11 (dC, dI) [(cI, .int), (cZ, .boolean), (cJ, .long)] A) (N : Nat) (z : ql_Z) : ∀ (x1 : Int32) (x2 : Int32), f_X11_act_0 N z x1 x2 = some res → ∀ (H : Heap) (locs : List Loc) (ls : Array Slot), va_P (dC, dI) vwCl ((ql_mw h ad cI cZ cJ) z) H → va_S A s.heap H locs → lv_has ls 3 [(0, .ref h), (1, .int x1), (2, .int x2)] → W p l e rm_X11_act s m args below meth c H locs 0 0 (ql_Qri below A args s res) (F0 m 0 ls []) := by
  have C0q := C0
  obtain ⟨hx, hb, hr, hml, hown, hts, hlocks, hK, hA⟩ := C0q
  have fl31 := hts (Cond.fieldLink RX11 31 "TestedLoopsModel" "many" "[I") (by decide +kernel)
  intro x1 x2 hf H locs ls hP hS hl
  unfold f_X11_act_0 at hf
  refine lv_iload_n hx hb dX11_act_0 rfl (lv_at hl 1 rfl) ?_
  obtain ⟨u1, hu1, hf⟩ := ql_bd hf
  refine ql_callRSi (As := [.int x1]) (rest := []) C0 (c_X11_isProgram l dC dI N x1 u1 hu1) (va_cwS 1 hts gX11_act_X11_isProgram rfl rfl rfl qd_X11_isProgram ⟨Nat.le_of_ble_eq_true rfl, Nat.le_of_ble_eq_true rfl⟩) (hK.sub [] rfl) ql_nil hS hl.1 rfl rfl (Nat.le_of_ble_eq_true rfl) dX11_act_1 (fun H1 locs hk hS => ?_)
  have hP := ql_keep hP hk
  refine lv_if_eq (tgt := 32) hx hb dX11_act_4 (by decide) (fun c2 => ?_) (fun c2 => ?_)
  · have hf := (if_pos c2).symm.trans hf
    refine lv_iconst (v := (-1)) hx hb dX11_act_32 (by decide) ?_
    exact ql_riret C0 hf hS dX11_act_33
  · have hf := (if_neg c2).symm.trans hf
    refine lv_iload_n hx hb dX11_act_7 rfl (lv_at hl 2 rfl) ?_
    refine lv_i2l hx hb dX11_act_8 rfl ?_
    refine lv_lconst (v := 1) hx hb dX11_act_9 (by decide) ?_
    refine lv_aload_n hx hb dX11_act_10 rfl (lv_at hl 0 rfl) ?_
    refine va_get (D := (dC, dI)) (ci := 11) (v := .ref (ad 9)) (C := RX11) (T := TX11) (N := 41) hx hb hts iw_X11_act_X11 hown hK.1 hP 0 rfl rfl 9 (by decide) fl31 (fun _ h9 => h9) rfl dX11_act_11 ?_
    refine lv_iload_n hx hb dX11_act_14 rfl (lv_at hl 1 rfl) ?_
    have g0 := ql_in (ql_gt hf)
    have hf := ql_gx hf
    refine va_iald (f := (z.1 9)) hx hb hK.1 hP 8 0 rfl rfl g0 dX11_act_15 ?_
    refine lv_i2l hx hb dX11_act_16 rfl ?_
    obtain ⟨u3, hu3, hf⟩ := ql_bd hf
    refine ql_callRSi (As := [.long x2.toInt64, .long 1, .long (((z.1 9) x1.toNatClampNeg).toInt64)]) (rest := []) C0 (c_X11_in l dC dI N x2.toInt64 1 (((z.1 9) x1.toNatClampNeg).toInt64) u3 hu3) (va_cwS 3 hts gX11_act_X11_in rfl rfl rfl qd_X11_in ⟨Nat.le_of_ble_eq_true rfl, Nat.le_of_ble_eq_true rfl⟩) (hK.sub [] rfl) ql_nil hS hl.1 rfl rfl (Nat.le_of_ble_eq_true rfl) dX11_act_17 (fun H1 locs hk hS => ?_)
    have hP := ql_keep hP hk
    refine lv_if_eq (tgt := 32) hx hb dX11_act_20 (by decide) (fun c4 => ?_) (fun c4 => ?_)
    · have hf := (if_pos c4).symm.trans hf
      refine lv_iconst (v := (-1)) hx hb dX11_act_32 (by decide) ?_
      exact ql_riret C0 hf hS dX11_act_33
    · have hf := (if_neg c4).symm.trans hf
      refine lv_aload_n hx hb dX11_act_23 rfl (lv_at hl 0 rfl) ?_
      refine lv_iload_n hx hb dX11_act_24 rfl (lv_at hl 1 rfl) ?_
      refine lv_iload_n hx hb dX11_act_25 rfl (lv_at hl 2 rfl) ?_
      obtain ⟨u5, hu5, hf⟩ := ql_bd hf
      refine ql_callRVi (As := [.int x1, .int x2]) (rest := []) C0 (c_X11_actOf l dC dI h ad cI cZ cJ N z x1 x2 u5 hu5) (cwV 2 hts gX11_act_X11_actOf rfl rfl rfl qv_X11_actOf ⟨Nat.le_of_ble_eq_true rfl, Nat.le_of_ble_eq_true rfl⟩) (va_recv hK.1 hP (ci := 11) (q0 := 0) rfl rfl) hK hP hS hl.1 rfl rfl (Nat.le_of_ble_eq_true rfl) dX11_act_26 (fun H1 locs hk hS => ?_)
      have hP := ql_keep hP hk
      refine lv_goto (tgt := 33) hx hb dX11_act_29 (by decide) ?_
      exact ql_riret C0 hf hS dX11_act_33
set_option maxRecDepth 100000 in
theorem c_X11_act (l : Launch) (dC : Nat → ClassId) (dI : Nat → Nat → Nat) (h : Nat) (ad : Nat → Nat) (cI cZ cJ : ClassId) (N : Nat) (z : ql_Z) (x1 : Int32) (x2 : Int32) (res : Int32) (hf : f_X11_act N z x1 x2 = some res) : ql_Ri l yX11_act wsX11_act rm_X11_act (dC, dI) [(cI, .int), (cZ, .boolean), (cJ, .long)] ((ql_mw h ad cI cZ cJ) z) [.ref h, .int x1, .int x2] res :=
  ql_start_ri (by decide) rfl (Nat.le_of_ble_eq_true rfl) (fun p e s m below meth c A ls C0 hl hP hS => w_X11_act_0 C0 N z x1 x2 hf s.heap [] ls hP hS (lv_sub (show lv_has ls 3 [(0, .ref h), (1, .int x1), (2, .int x2)] from hl) [0, 1, 2] rfl))
