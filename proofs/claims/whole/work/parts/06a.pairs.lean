def ql_xc (h : Nat) (ad : Nat → Nat) (cI cJ : ClassId) (z : ql_Z) : va_W := [(h, .inr (4, [.ref (ad 0), .ref (ad 1), .ref (ad 2), .ref (ad 3), .ref (ad 4), .int (z.1 5 0), .int (z.1 6 0), .long (z.2 7 0)])), (ad 0, .inl (cI, 324, .inl (z.1 0))), (ad 1, .inl (cI, 324, .inl (z.1 1))), (ad 2, .inl (cI, 324, .inl (z.1 2))), (ad 3, .inl (cI, 324, .inl (z.1 3))), (ad 4, .inl (cJ, 324, .inr (.inl (z.2 4))))]
def ql_xw (h : Nat) (ad : Nat → Nat) (cI cJ : ClassId) (pad : Nat → Nat → Nat) (P : Nat → ql_St) (z : ql_Z) : va_W := ql_xc h ad cI cJ z ++ ql_pls pad cI P
/-! ===== TestedLoops$Pairs.note(IIIJ)V ===== -/
abbrev rm_X4_note : Room := { frames := 0, cells := 0, slots := 0, locals := 0 }
theorem iw_X4_note_X4 : ∀ w ∈ wsX40, w ∈ wsX4_note := fun w h => List.mem_cons_of_mem _ (List.mem_append_right _ h)
theorem qv_X4_note : yX4_note.cls = RX4 ∧ yX4_note.cls ≠ "java/lang/invoke/MethodHandle" ∧ yX4_note.cls ≠ "java/lang/invoke/VarHandle" ∧ (parseMethodDescriptor yX4_note.desc).map (fun d => d.parameters.length) = some 4 := by decide +kernel
def f_X4_note_59 (N : Nat) (P : Nat → ql_St) (z : ql_Z) (x1 : Int32) (x2 : Int32) (x3 : Int32) (x4 : Int64) (x6 : Int32) (x7 : Int32) (y0 : Int32) : Option (ql_Z) := if x7 = 0 then if y0 = 0 then some z else if ql_ib x6 324 = true then if ((z.1 0) x6.toNatClampNeg) = 0 then if ql_ib x6 324 = true then if ql_ib (z.1 5 0) 324 = true then if ql_ib (z.1 5 0) 324 = true then if ql_ib (z.1 5 0) 324 = true then if ql_ib (z.1 5 0) 324 = true then some ((ql_up (ql_up (ql_up (ql_up (ql_up z.1 0 (upd (z.1 0) x6.toNatClampNeg 1)) 1 (upd (z.1 1) ((z.1 5 0).toNatClampNeg) x1)) 2 (upd (z.1 2) ((z.1 5 0).toNatClampNeg) x2)) 3 (upd (z.1 3) ((z.1 5 0).toNatClampNeg) x3)) 5 (fun _ => ((z.1 5 0) + 1))), (ql_uq z.2 4 (vp_updL (z.2 4) ((z.1 5 0).toNatClampNeg) x4))) else none else none else none else none else none else some z else none else some z
def f_X4_note_58 (N : Nat) (P : Nat → ql_St) (z : ql_Z) (x1 : Int32) (x2 : Int32) (x3 : Int32) (x4 : Int64) (x6 : Int32) (x7 : Int32) : Option (ql_Z) := f_X4_note_59 N P z x1 x2 x3 x4 x6 x7 0
def f_X4_note_25 (N : Nat) (P : Nat → ql_St) (z : ql_Z) (x1 : Int32) (x2 : Int32) (x3 : Int32) (x4 : Int64) (x6 : Int32) (y0 : Int32) : Option (ql_Z) := if x6 < 0 then f_X4_note_58 N P z x1 x2 x3 x4 x6 y0 else if 324 ≤ x6 then f_X4_note_58 N P z x1 x2 x3 x4 x6 y0 else if 324 ≤ (z.1 5 0) then f_X4_note_58 N P z x1 x2 x3 x4 x6 y0 else f_X4_note_59 N P z x1 x2 x3 x4 x6 y0 1
def f_X4_note_24 (N : Nat) (P : Nat → ql_St) (z : ql_Z) (x1 : Int32) (x2 : Int32) (x3 : Int32) (x4 : Int64) (x6 : Int32) : Option (ql_Z) := f_X4_note_25 N P z x1 x2 x3 x4 x6 0
def f_X4_note_0 (N : Nat) (P : Nat → ql_St) (z : ql_Z) (x1 : Int32) (x2 : Int32) (x3 : Int32) (x4 : Int64) : Option (ql_Z) := if x1 = 17 then if x2 = 17 then f_X4_note_25 N P z x1 x2 x3 x4 ((x1 * 18) + x2) 1 else f_X4_note_24 N P z x1 x2 x3 x4 ((x1 * 18) + x2) else f_X4_note_24 N P z x1 x2 x3 x4 ((x1 * 18) + x2)
def f_X4_note (N : Nat) (P : Nat → ql_St) (z : ql_Z) (x1 : Int32) (x2 : Int32) (x3 : Int32) (x4 : Int64) : Option (ql_Z) := f_X4_note_0 N P z x1 x2 x3 x4
set_option maxHeartbeats 4000000 in
set_option maxRecDepth 100000 in
theorem w_X4_note_59 {p : Program} {l : Launch} {e : Env} {s : State} {m : MethodId} {args : Array Value} {below : List Frame} {meth : Method} {c : Code} {dC : Nat → ClassId} {dI : Nat → Nat → Nat} {A : Nat → Prop} {h : Nat} {ad : Nat → Nat} {cI cJ : ClassId} {pad : Nat → Nat → Nat} {res : ql_Z} (C0 : ql_C p s m args meth c cX4_note 9 none wsX4_note RX4 (dC, dI) [(cI, .int), (cJ, .long)] A) (N : Nat) (P : Nat → ql_St) : ∀ (z : ql_Z) (x1 : Int32) (x2 : Int32) (x3 : Int32) (x4 : Int64) (x6 : Int32) (x7 : Int32) (y0 : Int32), f_X4_note_59 N P z x1 x2 x3 x4 x6 x7 y0 = some res → ∀ (H : Heap) (locs : List Loc) (ls : Array Slot), va_P (dC, dI) vwCl ((ql_xw h ad cI cJ pad P) z) H → va_D A ((ql_xw h ad cI cJ pad P) z) → va_S A s.heap H locs → lv_has ls 9 [(0, .ref h), (1, .int x1), (2, .int x2), (3, .int x3), (4, .long x4), (6, .int x6), (7, .int x7)] → W p l e rm_X4_note s m args below meth c H locs 0 0 (ql_Qv below (dC, dI) (ql_xw h ad cI cJ pad P) A args s res) (F0 m 59 ls [.int y0]) := by
  have C0q := C0
  obtain ⟨hx, hb, hr, hml, hown, hts, hlocks, hK, hA⟩ := C0q
  have fl11 := hts (Cond.fieldLink RX4 11 "TestedLoops$Pairs" "seen" "[I") (by decide +kernel)
  have fl15 := hts (Cond.fieldLink RX4 15 "TestedLoops$Pairs" "ones" "[I") (by decide +kernel)
  have fl28 := hts (Cond.fieldLink RX4 28 "TestedLoops$Pairs" "known" "I") (by decide +kernel)
  have fl18 := hts (Cond.fieldLink RX4 18 "TestedLoops$Pairs" "others" "[I") (by decide +kernel)
  have fl21 := hts (Cond.fieldLink RX4 21 "TestedLoops$Pairs" "acts" "[I") (by decide +kernel)
  have fl24 := hts (Cond.fieldLink RX4 24 "TestedLoops$Pairs" "rows" "[J") (by decide +kernel)
  intro z x1 x2 x3 x4 x6 x7 y0 hf H locs ls hP hD hS hl
  unfold f_X4_note_59 at hf
  refine lv_istore (lv' := [(8, .int y0), (0, .ref h), (1, .int x1), (2, .int x2), (3, .int x3), (4, .long x4), (6, .int x6), (7, .int x7)]) hx hb dX4_note_59 hl (by decide) rfl (fun ls hl => ?_)
  refine lv_iload hx hb dX4_note_61 (lv_at hl 7 rfl) ?_
  refine lv_if_ne (tgt := 81) hx hb dX4_note_63 (by decide) (fun c1 => ?_) (fun c1 => ?_)
  · have hf := (if_neg c1).symm.trans hf
    exact ql_vret C0 hf hP hD hS dX4_note_81
  · have hf := (if_pos c1).symm.trans hf
    refine lv_iload hx hb dX4_note_66 (lv_at hl 0 rfl) ?_
    refine lv_if_eq (tgt := 81) hx hb dX4_note_68 (by decide) (fun c2 => ?_) (fun c2 => ?_)
    · have hf := (if_pos c2).symm.trans hf
      exact ql_vret C0 hf hP hD hS dX4_note_81
    · have hf := (if_neg c2).symm.trans hf
      refine lv_aload_n hx hb dX4_note_71 rfl (lv_at hl 1 rfl) ?_
      refine va_get (D := (dC, dI)) (ci := 4) (v := .ref (ad 0)) (C := RX4) (T := TX4) (N := 8) hx hb hts iw_X4_note_X4 hown hK.1 hP 0 rfl rfl 0 (by decide) fl11 (fun _ h9 => h9) rfl dX4_note_72 ?_
      refine lv_iload hx hb dX4_note_75 (lv_at hl 6 rfl) ?_
      have g0 := ql_in (ql_gt hf)
      have hf := ql_gx hf
      refine va_iald (f := (z.1 0)) hx hb hK.1 hP 1 0 rfl rfl g0 dX4_note_77 ?_
      refine lv_if_eq (tgt := 82) hx hb dX4_note_78 (by decide) (fun c3 => ?_) (fun c3 => ?_)
      · have hf := (if_pos c3).symm.trans hf
        refine lv_aload_n hx hb dX4_note_82 rfl (lv_at hl 1 rfl) ?_
        refine va_get (D := (dC, dI)) (ci := 4) (v := .ref (ad 0)) (C := RX4) (T := TX4) (N := 8) hx hb hts iw_X4_note_X4 hown hK.1 hP 0 rfl rfl 0 (by decide) fl11 (fun _ h9 => h9) rfl dX4_note_83 ?_
        refine lv_iload hx hb dX4_note_86 (lv_at hl 6 rfl) ?_
        refine lv_iconst (v := 1) hx hb dX4_note_88 (by decide) ?_
        have g0 := ql_in (ql_gt hf)
        have hf := ql_gx hf
        refine va_iast (f := (z.1 0)) hx hb hK.1 hP hD hS 1 0 rfl rfl g0 dX4_note_89 (fun H locs hP hD hS => ?_)
        refine lv_aload_n hx hb dX4_note_90 rfl (lv_at hl 1 rfl) ?_
        refine va_get (D := (dC, dI)) (ci := 4) (v := .ref (ad 1)) (C := RX4) (T := TX4) (N := 8) hx hb hts iw_X4_note_X4 hown hK.1 hP 0 rfl rfl 1 (by decide) fl15 (fun _ h9 => h9) rfl dX4_note_91 ?_
        refine lv_aload_n hx hb dX4_note_94 rfl (lv_at hl 1 rfl) ?_
        refine va_get (D := (dC, dI)) (ci := 4) (v := .int (z.1 5 0)) (C := RX4) (T := TX4) (N := 8) hx hb hts iw_X4_note_X4 hown hK.1 hP 0 rfl rfl 5 (by decide) fl28 (fun _ h9 => h9) rfl dX4_note_95 ?_
        refine lv_iload_n hx hb dX4_note_98 rfl (lv_at hl 2 rfl) ?_
        have g0 := ql_in (ql_gt hf)
        have hf := ql_gx hf
        refine va_iast (f := (z.1 1)) hx hb hK.1 hP hD hS 2 0 rfl rfl g0 dX4_note_99 (fun H locs hP hD hS => ?_)
        refine lv_aload_n hx hb dX4_note_100 rfl (lv_at hl 1 rfl) ?_
        refine va_get (D := (dC, dI)) (ci := 4) (v := .ref (ad 2)) (C := RX4) (T := TX4) (N := 8) hx hb hts iw_X4_note_X4 hown hK.1 hP 0 rfl rfl 2 (by decide) fl18 (fun _ h9 => h9) rfl dX4_note_101 ?_
        refine lv_aload_n hx hb dX4_note_104 rfl (lv_at hl 1 rfl) ?_
        refine va_get (D := (dC, dI)) (ci := 4) (v := .int (z.1 5 0)) (C := RX4) (T := TX4) (N := 8) hx hb hts iw_X4_note_X4 hown hK.1 hP 0 rfl rfl 5 (by decide) fl28 (fun _ h9 => h9) rfl dX4_note_105 ?_
        refine lv_iload_n hx hb dX4_note_108 rfl (lv_at hl 3 rfl) ?_
        have g0 := ql_in (ql_gt hf)
        have hf := ql_gx hf
        refine va_iast (f := (z.1 2)) hx hb hK.1 hP hD hS 3 0 rfl rfl g0 dX4_note_109 (fun H locs hP hD hS => ?_)
        refine lv_aload_n hx hb dX4_note_110 rfl (lv_at hl 1 rfl) ?_
        refine va_get (D := (dC, dI)) (ci := 4) (v := .ref (ad 3)) (C := RX4) (T := TX4) (N := 8) hx hb hts iw_X4_note_X4 hown hK.1 hP 0 rfl rfl 3 (by decide) fl21 (fun _ h9 => h9) rfl dX4_note_111 ?_
        refine lv_aload_n hx hb dX4_note_114 rfl (lv_at hl 1 rfl) ?_
        refine va_get (D := (dC, dI)) (ci := 4) (v := .int (z.1 5 0)) (C := RX4) (T := TX4) (N := 8) hx hb hts iw_X4_note_X4 hown hK.1 hP 0 rfl rfl 5 (by decide) fl28 (fun _ h9 => h9) rfl dX4_note_115 ?_
        refine lv_iload_n hx hb dX4_note_118 rfl (lv_at hl 4 rfl) ?_
        have g0 := ql_in (ql_gt hf)
        have hf := ql_gx hf
        refine va_iast (f := (z.1 3)) hx hb hK.1 hP hD hS 4 0 rfl rfl g0 dX4_note_119 (fun H locs hP hD hS => ?_)
        refine lv_aload_n hx hb dX4_note_120 rfl (lv_at hl 1 rfl) ?_
        refine va_get (D := (dC, dI)) (ci := 4) (v := .ref (ad 4)) (C := RX4) (T := TX4) (N := 8) hx hb hts iw_X4_note_X4 hown hK.1 hP 0 rfl rfl 4 (by decide) fl24 (fun _ h9 => h9) rfl dX4_note_121 ?_
        refine lv_aload_n hx hb dX4_note_124 rfl (lv_at hl 1 rfl) ?_
        refine va_get (D := (dC, dI)) (ci := 4) (v := .int (z.1 5 0)) (C := RX4) (T := TX4) (N := 8) hx hb hts iw_X4_note_X4 hown hK.1 hP 0 rfl rfl 5 (by decide) fl28 (fun _ h9 => h9) rfl dX4_note_125 ?_
        refine lv_lload hx hb dX4_note_128 (lv_at hl 5 rfl) ?_
        have g0 := ql_in (ql_gt hf)
        have hf := ql_gx hf
        refine va_last (f := (z.2 4)) hx hb hK.1 hP hD hS 5 1 rfl rfl g0 dX4_note_130 (fun H locs hP hD hS => ?_)
        refine lv_aload_n hx hb dX4_note_131 rfl (lv_at hl 1 rfl) ?_
        refine lv_dup hx hb dX4_note_132 rfl ?_
        refine va_get (D := (dC, dI)) (ci := 4) (v := .int (z.1 5 0)) (C := RX4) (T := TX4) (N := 8) hx hb hts iw_X4_note_X4 hown hK.1 hP 0 rfl rfl 5 (by decide) fl28 (fun _ h9 => h9) rfl dX4_note_133 ?_
        refine lv_iconst (v := 1) hx hb dX4_note_136 (by decide) ?_
        refine lv_iadd hx hb dX4_note_137 ?_
        refine va_put (D := (dC, dI)) (ci := 4) (v := .int ((z.1 5 0) + 1)) (ty := .int) (C := RX4) (T := TX4) (N := 8) hx hb hts iw_X4_note_X4 tyX4 tyX4_ok nmX4 hown hK.1 hP hD hS 0 rfl rfl 5 (by decide) fl28 (fun _ h9 => h9) rfl (by decide +kernel) rfl rfl (Nat.le_of_ble_eq_true rfl) dX4_note_138 (fun H locs hP hD hS => ?_)
        exact ql_vret C0 hf hP hD hS dX4_note_141
      · have hf := (if_neg c3).symm.trans hf
        exact ql_vret C0 hf hP hD hS dX4_note_81
set_option maxHeartbeats 4000000 in
set_option maxRecDepth 100000 in
theorem w_X4_note_58 {p : Program} {l : Launch} {e : Env} {s : State} {m : MethodId} {args : Array Value} {below : List Frame} {meth : Method} {c : Code} {dC : Nat → ClassId} {dI : Nat → Nat → Nat} {A : Nat → Prop} {h : Nat} {ad : Nat → Nat} {cI cJ : ClassId} {pad : Nat → Nat → Nat} {res : ql_Z} (C0 : ql_C p s m args meth c cX4_note 9 none wsX4_note RX4 (dC, dI) [(cI, .int), (cJ, .long)] A) (N : Nat) (P : Nat → ql_St) : ∀ (z : ql_Z) (x1 : Int32) (x2 : Int32) (x3 : Int32) (x4 : Int64) (x6 : Int32) (x7 : Int32), f_X4_note_58 N P z x1 x2 x3 x4 x6 x7 = some res → ∀ (H : Heap) (locs : List Loc) (ls : Array Slot), va_P (dC, dI) vwCl ((ql_xw h ad cI cJ pad P) z) H → va_D A ((ql_xw h ad cI cJ pad P) z) → va_S A s.heap H locs → lv_has ls 9 [(0, .ref h), (1, .int x1), (2, .int x2), (3, .int x3), (4, .long x4), (6, .int x6), (7, .int x7)] → W p l e rm_X4_note s m args below meth c H locs 0 0 (ql_Qv below (dC, dI) (ql_xw h ad cI cJ pad P) A args s res) (F0 m 58 ls []) := by
  have C0q := C0
  obtain ⟨hx, hb, hr, hml, hown, hts, hlocks, hK, hA⟩ := C0q
  intro z x1 x2 x3 x4 x6 x7 hf H locs ls hP hD hS hl
  unfold f_X4_note_58 at hf
  refine lv_iconst (v := 0) hx hb dX4_note_58 (by decide) ?_
  exact w_X4_note_59 C0 N P _ _ _ _ _ _ _ _ hf _ _ _ hP hD hS (lv_sub hl [0, 1, 2, 3, 4, 5, 6] rfl)
set_option maxHeartbeats 4000000 in
set_option maxRecDepth 100000 in
theorem w_X4_note_25 {p : Program} {l : Launch} {e : Env} {s : State} {m : MethodId} {args : Array Value} {below : List Frame} {meth : Method} {c : Code} {dC : Nat → ClassId} {dI : Nat → Nat → Nat} {A : Nat → Prop} {h : Nat} {ad : Nat → Nat} {cI cJ : ClassId} {pad : Nat → Nat → Nat} {res : ql_Z} (C0 : ql_C p s m args meth c cX4_note 9 none wsX4_note RX4 (dC, dI) [(cI, .int), (cJ, .long)] A) (N : Nat) (P : Nat → ql_St) : ∀ (z : ql_Z) (x1 : Int32) (x2 : Int32) (x3 : Int32) (x4 : Int64) (x6 : Int32) (y0 : Int32), f_X4_note_25 N P z x1 x2 x3 x4 x6 y0 = some res → ∀ (H : Heap) (locs : List Loc) (ls : Array Slot), va_P (dC, dI) vwCl ((ql_xw h ad cI cJ pad P) z) H → va_D A ((ql_xw h ad cI cJ pad P) z) → va_S A s.heap H locs → lv_has ls 9 [(0, .ref h), (1, .int x1), (2, .int x2), (3, .int x3), (4, .long x4), (6, .int x6)] → W p l e rm_X4_note s m args below meth c H locs 0 0 (ql_Qv below (dC, dI) (ql_xw h ad cI cJ pad P) A args s res) (F0 m 25 ls [.int y0]) := by
  have C0q := C0
  obtain ⟨hx, hb, hr, hml, hown, hts, hlocks, hK, hA⟩ := C0q
  have fl11 := hts (Cond.fieldLink RX4 11 "TestedLoops$Pairs" "seen" "[I") (by decide +kernel)
  have fl28 := hts (Cond.fieldLink RX4 28 "TestedLoops$Pairs" "known" "I") (by decide +kernel)
  have fl15 := hts (Cond.fieldLink RX4 15 "TestedLoops$Pairs" "ones" "[I") (by decide +kernel)
  intro z x1 x2 x3 x4 x6 y0 hf H locs ls hP hD hS hl
  unfold f_X4_note_25 at hf
  refine lv_istore (lv' := [(7, .int y0), (0, .ref h), (1, .int x1), (2, .int x2), (3, .int x3), (4, .long x4), (6, .int x6)]) hx hb dX4_note_25 hl (by decide) rfl (fun ls hl => ?_)
  refine lv_iload hx hb dX4_note_27 (lv_at hl 6 rfl) ?_
  refine lv_if_lt (tgt := 58) hx hb dX4_note_29 (by decide) (fun c4 => ?_) (fun c4 => ?_)
  · have hf := (if_pos c4).symm.trans hf
    exact w_X4_note_58 C0 N P _ _ _ _ _ _ _ hf _ _ _ hP hD hS (lv_sub hl [1, 2, 3, 4, 5, 6, 0] rfl)
  · have hf := (if_neg c4).symm.trans hf
    refine lv_iload hx hb dX4_note_32 (lv_at hl 6 rfl) ?_
    refine lv_aload_n hx hb dX4_note_34 rfl (lv_at hl 1 rfl) ?_
    refine va_get (D := (dC, dI)) (ci := 4) (v := .ref (ad 0)) (C := RX4) (T := TX4) (N := 8) hx hb hts iw_X4_note_X4 hown hK.1 hP 0 rfl rfl 0 (by decide) fl11 (fun _ h9 => h9) rfl dX4_note_35 ?_
    refine va_alen (v := 324) hx hb hK.1 hP 1 0 rfl rfl (show Int32.ofNat 324 = 324 by decide) dX4_note_38 ?_
    refine lv_icmp_ge (tgt := 58) hx hb dX4_note_39 (by decide) (fun c5 => ?_) (fun c5 => ?_)
    · have hf := (if_pos c5).symm.trans hf
      exact w_X4_note_58 C0 N P _ _ _ _ _ _ _ hf _ _ _ hP hD hS (lv_sub hl [1, 2, 3, 4, 5, 6, 0] rfl)
    · have hf := (if_neg c5).symm.trans hf
      refine lv_aload_n hx hb dX4_note_42 rfl (lv_at hl 1 rfl) ?_
      refine va_get (D := (dC, dI)) (ci := 4) (v := .int (z.1 5 0)) (C := RX4) (T := TX4) (N := 8) hx hb hts iw_X4_note_X4 hown hK.1 hP 0 rfl rfl 5 (by decide) fl28 (fun _ h9 => h9) rfl dX4_note_43 ?_
      refine lv_aload_n hx hb dX4_note_46 rfl (lv_at hl 1 rfl) ?_
      refine va_get (D := (dC, dI)) (ci := 4) (v := .ref (ad 1)) (C := RX4) (T := TX4) (N := 8) hx hb hts iw_X4_note_X4 hown hK.1 hP 0 rfl rfl 1 (by decide) fl15 (fun _ h9 => h9) rfl dX4_note_47 ?_
      refine va_alen (v := 324) hx hb hK.1 hP 2 0 rfl rfl (show Int32.ofNat 324 = 324 by decide) dX4_note_50 ?_
      refine lv_icmp_ge (tgt := 58) hx hb dX4_note_51 (by decide) (fun c6 => ?_) (fun c6 => ?_)
      · have hf := (if_pos c6).symm.trans hf
        exact w_X4_note_58 C0 N P _ _ _ _ _ _ _ hf _ _ _ hP hD hS (lv_sub hl [1, 2, 3, 4, 5, 6, 0] rfl)
      · have hf := (if_neg c6).symm.trans hf
        refine lv_iconst (v := 1) hx hb dX4_note_54 (by decide) ?_
        refine lv_goto (tgt := 59) hx hb dX4_note_55 (by decide) ?_
        exact w_X4_note_59 C0 N P _ _ _ _ _ _ _ _ hf _ _ _ hP hD hS (lv_sub hl [1, 2, 3, 4, 5, 6, 0] rfl)
set_option maxHeartbeats 4000000 in
set_option maxRecDepth 100000 in
theorem w_X4_note_24 {p : Program} {l : Launch} {e : Env} {s : State} {m : MethodId} {args : Array Value} {below : List Frame} {meth : Method} {c : Code} {dC : Nat → ClassId} {dI : Nat → Nat → Nat} {A : Nat → Prop} {h : Nat} {ad : Nat → Nat} {cI cJ : ClassId} {pad : Nat → Nat → Nat} {res : ql_Z} (C0 : ql_C p s m args meth c cX4_note 9 none wsX4_note RX4 (dC, dI) [(cI, .int), (cJ, .long)] A) (N : Nat) (P : Nat → ql_St) : ∀ (z : ql_Z) (x1 : Int32) (x2 : Int32) (x3 : Int32) (x4 : Int64) (x6 : Int32), f_X4_note_24 N P z x1 x2 x3 x4 x6 = some res → ∀ (H : Heap) (locs : List Loc) (ls : Array Slot), va_P (dC, dI) vwCl ((ql_xw h ad cI cJ pad P) z) H → va_D A ((ql_xw h ad cI cJ pad P) z) → va_S A s.heap H locs → lv_has ls 9 [(0, .ref h), (1, .int x1), (2, .int x2), (3, .int x3), (4, .long x4), (6, .int x6)] → W p l e rm_X4_note s m args below meth c H locs 0 0 (ql_Qv below (dC, dI) (ql_xw h ad cI cJ pad P) A args s res) (F0 m 24 ls []) := by
  have C0q := C0
  obtain ⟨hx, hb, hr, hml, hown, hts, hlocks, hK, hA⟩ := C0q
  intro z x1 x2 x3 x4 x6 hf H locs ls hP hD hS hl
  unfold f_X4_note_24 at hf
  refine lv_iconst (v := 0) hx hb dX4_note_24 (by decide) ?_
  exact w_X4_note_25 C0 N P _ _ _ _ _ _ _ hf _ _ _ hP hD hS (lv_sub hl [0, 1, 2, 3, 4, 5] rfl)
set_option maxHeartbeats 4000000 in
set_option maxRecDepth 100000 in
theorem w_X4_note_0 {p : Program} {l : Launch} {e : Env} {s : State} {m : MethodId} {args : Array Value} {below : List Frame} {meth : Method} {c : Code} {dC : Nat → ClassId} {dI : Nat → Nat → Nat} {A : Nat → Prop} {h : Nat} {ad : Nat → Nat} {cI cJ : ClassId} {pad : Nat → Nat → Nat} {res : ql_Z} (C0 : ql_C p s m args meth c cX4_note 9 none wsX4_note RX4 (dC, dI) [(cI, .int), (cJ, .long)] A) (N : Nat) (P : Nat → ql_St) : ∀ (z : ql_Z) (x1 : Int32) (x2 : Int32) (x3 : Int32) (x4 : Int64), f_X4_note_0 N P z x1 x2 x3 x4 = some res → ∀ (H : Heap) (locs : List Loc) (ls : Array Slot), va_P (dC, dI) vwCl ((ql_xw h ad cI cJ pad P) z) H → va_D A ((ql_xw h ad cI cJ pad P) z) → va_S A s.heap H locs → lv_has ls 9 [(0, .ref h), (1, .int x1), (2, .int x2), (3, .int x3), (4, .long x4)] → W p l e rm_X4_note s m args below meth c H locs 0 0 (ql_Qv below (dC, dI) (ql_xw h ad cI cJ pad P) A args s res) (F0 m 0 ls []) := by
  have C0q := C0
  obtain ⟨hx, hb, hr, hml, hown, hts, hlocks, hK, hA⟩ := C0q
  intro z x1 x2 x3 x4 hf H locs ls hP hD hS hl
  unfold f_X4_note_0 at hf
  refine lv_iload_n hx hb dX4_note_0 rfl (lv_at hl 1 rfl) ?_
  refine lv_bipush (v := 18) hx hb dX4_note_1 (by decide) ?_
  refine lv_imul hx hb dX4_note_3 ?_
  refine lv_iload_n hx hb dX4_note_4 rfl (lv_at hl 2 rfl) ?_
  refine lv_iadd hx hb dX4_note_5 ?_
  refine lv_istore (lv' := [(6, .int ((x1 * 18) + x2)), (0, .ref h), (1, .int x1), (2, .int x2), (3, .int x3), (4, .long x4)]) hx hb dX4_note_6 hl (by decide) rfl (fun ls hl => ?_)
  refine lv_iload_n hx hb dX4_note_8 rfl (lv_at hl 2 rfl) ?_
  refine lv_bipush (v := 17) hx hb dX4_note_9 (by decide) ?_
  refine lv_icmp_ne (tgt := 24) hx hb dX4_note_11 (by decide) (fun c7 => ?_) (fun c7 => ?_)
  · have hf := (if_neg c7).symm.trans hf
    exact w_X4_note_24 C0 N P _ _ _ _ _ _ hf _ _ _ hP hD hS (lv_sub hl [1, 2, 3, 4, 5, 0] rfl)
  · have hf := (if_pos c7).symm.trans hf
    refine lv_iload_n hx hb dX4_note_14 rfl (lv_at hl 3 rfl) ?_
    refine lv_bipush (v := 17) hx hb dX4_note_15 (by decide) ?_
    refine lv_icmp_ne (tgt := 24) hx hb dX4_note_17 (by decide) (fun c8 => ?_) (fun c8 => ?_)
    · have hf := (if_neg c8).symm.trans hf
      exact w_X4_note_24 C0 N P _ _ _ _ _ _ hf _ _ _ hP hD hS (lv_sub hl [1, 2, 3, 4, 5, 0] rfl)
    · have hf := (if_pos c8).symm.trans hf
      refine lv_iconst (v := 1) hx hb dX4_note_20 (by decide) ?_
      refine lv_goto (tgt := 25) hx hb dX4_note_21 (by decide) ?_
      exact w_X4_note_25 C0 N P _ _ _ _ _ _ _ hf _ _ _ hP hD hS (lv_sub hl [1, 2, 3, 4, 5, 0] rfl)
set_option maxRecDepth 100000 in
theorem c_X4_note (l : Launch) (dC : Nat → ClassId) (dI : Nat → Nat → Nat) (h : Nat) (ad : Nat → Nat) (cI cJ : ClassId) (pad : Nat → Nat → Nat) (N : Nat) (P : Nat → ql_St) (z : ql_Z) (x1 : Int32) (x2 : Int32) (x3 : Int32) (x4 : Int64) (res : ql_Z) (hf : f_X4_note N P z x1 x2 x3 x4 = some res) : ql_Mv l yX4_note wsX4_note rm_X4_note (dC, dI) [(cI, .int), (cJ, .long)] (ql_xw h ad cI cJ pad P) [.ref h, .int x1, .int x2, .int x3, .long x4] z res :=
  ql_start_v (by decide) rfl (Nat.le_of_ble_eq_true rfl) (fun p e s m below meth c A ls C0 hl hP hD hS => w_X4_note_0 C0 N P z x1 x2 x3 x4 hf s.heap [] ls hP hD hS (lv_sub (show lv_has ls 9 [(0, .ref h), (1, .int x1), (2, .int x2), (3, .int x3), (4, .long x4)] from hl) [0, 1, 2, 3, 4] rfl))
/-! ===== TestedLoops$Pairs.goOn(LTestedLoops$Plan;LTestedLoops$Plan;I)V ===== -/
abbrev rm_X4_goOn : Room := { frames := 3, cells := 0, slots := 0, locals := 68 }
theorem iw_X4_goOn_X4 : ∀ w ∈ wsX40, w ∈ wsX4_goOn := fun w h => List.mem_cons_of_mem _ (List.mem_append_left _ (List.mem_append_right _ h))
theorem iw_X4_goOn_X6 : ∀ w ∈ wsX60, w ∈ wsX4_goOn := fun w h => List.mem_cons_of_mem _ (List.mem_append_right _ h)
theorem qv_X4_goOn : yX4_goOn.cls = RX4 ∧ yX4_goOn.cls ≠ "java/lang/invoke/MethodHandle" ∧ yX4_goOn.cls ≠ "java/lang/invoke/VarHandle" ∧ (parseMethodDescriptor yX4_goOn.desc).map (fun d => d.parameters.length) = some 3 := by decide +kernel
def f_X4_goOn_12 (N : Nat) (P : Nat → ql_St) (k3 : ql_Z → Nat → Nat → Int32 → Int32 → Option (ql_Z)) : Nat → ql_Z → Nat → Nat → Int32 → Int32 → Int32 → Option (ql_Z)
  | 0, _, _, _, _, _, _ => none
  | n + 1, z, i1, i2, x3, x4, x5 => if 3 < x5 then k3 z i1 i2 x3 (x4 + 1) else if ql_ib x3 324 = true then if ql_ib x3 324 = true then (f_X6_goesBy N (P i1) ((z.1 1) x3.toNatClampNeg) x4 x5).bind fun u2 => if ql_ib x3 324 = true then (f_X6_goesBy N (P i2) ((z.1 2) x3.toNatClampNeg) x4 x5).bind fun u3 => if ql_ib x3 324 = true then (f_X4_note N P z u2 u3 (((z.1 3) x3.toNatClampNeg) + 1) (((((z.2 4) x3.toNatClampNeg) + x4.toInt64) * 12) + ((x5 - 1) * 4).toInt64)).bind fun u4 => f_X4_goOn_12 N P k3 n u4 i1 i2 x3 x4 (x5 + 1) else none else none else none else none
def f_X4_goOn_3 (N : Nat) (P : Nat → ql_St) : Nat → ql_Z → Nat → Nat → Int32 → Int32 → Option (ql_Z)
  | 0, _, _, _, _, _ => none
  | n + 1, z, i1, i2, x3, x4 => if 4 ≤ x4 then some z else f_X4_goOn_12 N P (f_X4_goOn_3 N P n) N z i1 i2 x3 x4 1
def f_X4_goOn_0 (N : Nat) (P : Nat → ql_St) (z : ql_Z) (i1 : Nat) (i2 : Nat) (x3 : Int32) : Option (ql_Z) := f_X4_goOn_3 N P N z i1 i2 x3 0
def f_X4_goOn (N : Nat) (P : Nat → ql_St) (z : ql_Z) (i1 : Nat) (i2 : Nat) (x3 : Int32) : Option (ql_Z) := f_X4_goOn_0 N P z i1 i2 x3
set_option maxHeartbeats 4000000 in
set_option maxRecDepth 100000 in
theorem w_X4_goOn_12 {p : Program} {l : Launch} {e : Env} {s : State} {m : MethodId} {args : Array Value} {below : List Frame} {meth : Method} {c : Code} {dC : Nat → ClassId} {dI : Nat → Nat → Nat} {A : Nat → Prop} {h : Nat} {ad : Nat → Nat} {cI cJ : ClassId} {pad : Nat → Nat → Nat} {res : ql_Z} (C0 : ql_C p s m args meth c cX4_goOn 8 none wsX4_goOn RX4 (dC, dI) [(cI, .int), (cJ, .long)] A) (N : Nat) (P : Nat → ql_St) (k3 : ql_Z → Nat → Nat → Int32 → Int32 → Option (ql_Z)) (hk3 : ∀ (z : ql_Z) (i1 : Nat) (i2 : Nat) (x3 : Int32) (x4 : Int32), i1 < 5 → i2 < 5 → k3 z i1 i2 x3 x4 = some res → ∀ (H : Heap) (locs : List Loc) (ls : Array Slot), va_P (dC, dI) vwCl ((ql_xw h ad cI cJ pad P) z) H → va_D A ((ql_xw h ad cI cJ pad P) z) → va_S A s.heap H locs → lv_has ls 8 [(0, .ref h), (1, .ref (pad i1 100)), (2, .ref (pad i2 100)), (3, .int x3), (4, .int x4)] → W p l e rm_X4_goOn s m args below meth c H locs 0 0 (ql_Qv below (dC, dI) (ql_xw h ad cI cJ pad P) A args s res) (F0 m 3 ls [])) : ∀ (n : Nat), ∀ (z : ql_Z) (i1 : Nat) (i2 : Nat) (x3 : Int32) (x4 : Int32) (x5 : Int32), i1 < 5 → i2 < 5 → f_X4_goOn_12 N P k3 n z i1 i2 x3 x4 x5 = some res → ∀ (H : Heap) (locs : List Loc) (ls : Array Slot), va_P (dC, dI) vwCl ((ql_xw h ad cI cJ pad P) z) H → va_D A ((ql_xw h ad cI cJ pad P) z) → va_S A s.heap H locs → lv_has ls 8 [(0, .ref h), (1, .ref (pad i1 100)), (2, .ref (pad i2 100)), (3, .int x3), (4, .int x4), (5, .int x5)] → W p l e rm_X4_goOn s m args below meth c H locs 0 0 (ql_Qv below (dC, dI) (ql_xw h ad cI cJ pad P) A args s res) (F0 m 12 ls []) := by
  have C0q := C0
  obtain ⟨hx, hb, hr, hml, hown, hts, hlocks, hK, hA⟩ := C0q
  have fl24 := hts (Cond.fieldLink RX4 24 "TestedLoops$Pairs" "rows" "[J") (by decide +kernel)
  have fl53 := hts (Cond.constantLong RX4 53 (12)) (by decide +kernel)
  have fl15 := hts (Cond.fieldLink RX4 15 "TestedLoops$Pairs" "ones" "[I") (by decide +kernel)
  have fl18 := hts (Cond.fieldLink RX4 18 "TestedLoops$Pairs" "others" "[I") (by decide +kernel)
  have fl21 := hts (Cond.fieldLink RX4 21 "TestedLoops$Pairs" "acts" "[I") (by decide +kernel)
  intro n
  induction n with
  | zero =>
    intro z i1 i2 x3 x4 x5 gi1 gi2 hf
    rw [f_X4_goOn_12] at hf
    cases hf
  | succ n ih =>
    intro z i1 i2 x3 x4 x5 gi1 gi2 hf H locs ls hP hD hS hl
    rw [f_X4_goOn_12] at hf
    refine lv_iload hx hb dX4_goOn_12 (lv_at hl 5 rfl) ?_
    refine lv_iconst (v := 3) hx hb dX4_goOn_14 (by decide) ?_
    refine lv_icmp_gt (tgt := 90) hx hb dX4_goOn_15 (by decide) (fun c1 => ?_) (fun c1 => ?_)
    · have hf := (if_pos c1).symm.trans hf
      refine lv_iinc (v := (x4 + 1)) (lv' := [(4, .int (x4 + 1)), (0, .ref h), (1, .ref (pad i1 100)), (2, .ref (pad i2 100)), (3, .int x3), (5, .int x5)]) hx hb dX4_goOn_90 hl (k := 4) rfl rfl (by decide) rfl (fun ls hl => ?_)
      refine lv_goto (tgt := 3) hx hb dX4_goOn_93 (by decide) ?_
      exact hk3 _ _ _ _ _ gi1 gi2 hf _ _ _ hP hD hS (lv_sub hl [1, 2, 3, 4, 0] rfl)
    · have hf := (if_neg c1).symm.trans hf
      refine lv_aload_n hx hb dX4_goOn_18 rfl (lv_at hl 0 rfl) ?_
      refine va_get (D := (dC, dI)) (ci := 4) (v := .ref (ad 4)) (C := RX4) (T := TX4) (N := 8) hx hb hts iw_X4_goOn_X4 hown hK.1 hP 0 rfl rfl 4 (by decide) fl24 (fun _ h9 => h9) rfl dX4_goOn_19 ?_
      refine lv_iload_n hx hb dX4_goOn_22 rfl (lv_at hl 3 rfl) ?_
      have g0 := ql_in (ql_gt hf)
      have hf := ql_gx hf
      refine va_lald (f := (z.2 4)) hx hb hK.1 hP 5 1 rfl rfl g0 dX4_goOn_23 ?_
      refine lv_iload hx hb dX4_goOn_24 (lv_at hl 4 rfl) ?_
      refine lv_i2l hx hb dX4_goOn_26 rfl ?_
      refine lv_ladd hx hb dX4_goOn_27 ?_
      refine lv_ldc2 hx hb hown fl53 dX4_goOn_28 ?_
      refine lv_lmul hx hb dX4_goOn_31 ?_
      refine lv_iload hx hb dX4_goOn_32 (lv_at hl 5 rfl) ?_
      refine lv_iconst (v := 1) hx hb dX4_goOn_34 (by decide) ?_
      refine lv_isub hx hb dX4_goOn_35 ?_
      refine lv_iconst (v := 4) hx hb dX4_goOn_36 (by decide) ?_
      refine lv_imul hx hb dX4_goOn_37 ?_
      refine lv_i2l hx hb dX4_goOn_38 rfl ?_
      refine lv_ladd hx hb dX4_goOn_39 ?_
      refine lv_lstore (lv' := [(6, .long (((((z.2 4) x3.toNatClampNeg) + x4.toInt64) * 12) + ((x5 - 1) * 4).toInt64)), (0, .ref h), (1, .ref (pad i1 100)), (2, .ref (pad i2 100)), (3, .int x3), (4, .int x4), (5, .int x5)]) hx hb dX4_goOn_40 hl (by decide) rfl (fun ls hl => ?_)
      refine lv_aload_n hx hb dX4_goOn_42 rfl (lv_at hl 1 rfl) ?_
      refine lv_aload_n hx hb dX4_goOn_43 rfl (lv_at hl 2 rfl) ?_
      refine lv_aload_n hx hb dX4_goOn_44 rfl (lv_at hl 1 rfl) ?_
      refine va_get (D := (dC, dI)) (ci := 4) (v := .ref (ad 1)) (C := RX4) (T := TX4) (N := 8) hx hb hts iw_X4_goOn_X4 hown hK.1 hP 0 rfl rfl 1 (by decide) fl15 (fun _ h9 => h9) rfl dX4_goOn_45 ?_
      refine lv_iload_n hx hb dX4_goOn_48 rfl (lv_at hl 4 rfl) ?_
      have g0 := ql_in (ql_gt hf)
      have hf := ql_gx hf
      refine va_iald (f := (z.1 1)) hx hb hK.1 hP 2 0 rfl rfl g0 dX4_goOn_49 ?_
      refine lv_iload hx hb dX4_goOn_50 (lv_at hl 5 rfl) ?_
      refine lv_iload hx hb dX4_goOn_52 (lv_at hl 6 rfl) ?_
      obtain ⟨u2, hu2, hf⟩ := ql_bd hf
      refine ql_callRVi (As := [.int ((z.1 1) x3.toNatClampNeg), .int x4, .int x5]) (rest := [.ref h]) C0 (c_X6_goesBy l dC dI (pad i1 100) (pad i1) cI N (P i1) ((z.1 1) x3.toNatClampNeg) x4 x5 u2 hu2) (cwV 3 hts gX4_goOn_X6_goesBy rfl rfl rfl qv_X6_goesBy ⟨Nat.le_of_ble_eq_true rfl, Nat.le_of_ble_eq_true rfl⟩) (va_recv hK.1 (ql_pl 6 hP rfl gi1) (ci := 6) (q0 := 0) rfl rfl) (hK.sub [0] rfl) (ql_pl 6 hP rfl gi1) hS hl.1 rfl rfl (Nat.le_of_ble_eq_true rfl) dX4_goOn_54 (fun H1 locs hk hS => ?_)
      have hP := ql_keep hP hk
      refine lv_aload_n hx hb dX4_goOn_57 rfl (lv_at hl 3 rfl) ?_
      refine lv_aload_n hx hb dX4_goOn_58 rfl (lv_at hl 1 rfl) ?_
      refine va_get (D := (dC, dI)) (ci := 4) (v := .ref (ad 2)) (C := RX4) (T := TX4) (N := 8) hx hb hts iw_X4_goOn_X4 hown hK.1 hP 0 rfl rfl 2 (by decide) fl18 (fun _ h9 => h9) rfl dX4_goOn_59 ?_
      refine lv_iload_n hx hb dX4_goOn_62 rfl (lv_at hl 4 rfl) ?_
      have g0 := ql_in (ql_gt hf)
      have hf := ql_gx hf
      refine va_iald (f := (z.1 2)) hx hb hK.1 hP 3 0 rfl rfl g0 dX4_goOn_63 ?_
      refine lv_iload hx hb dX4_goOn_64 (lv_at hl 5 rfl) ?_
      refine lv_iload hx hb dX4_goOn_66 (lv_at hl 6 rfl) ?_
      obtain ⟨u3, hu3, hf⟩ := ql_bd hf
      refine ql_callRVi (As := [.int ((z.1 2) x3.toNatClampNeg), .int x4, .int x5]) (rest := [.int u2, .ref h]) C0 (c_X6_goesBy l dC dI (pad i2 100) (pad i2) cI N (P i2) ((z.1 2) x3.toNatClampNeg) x4 x5 u3 hu3) (cwV 3 hts gX4_goOn_X6_goesBy rfl rfl rfl qv_X6_goesBy ⟨Nat.le_of_ble_eq_true rfl, Nat.le_of_ble_eq_true rfl⟩) (va_recv hK.1 (ql_pl 6 hP rfl gi2) (ci := 6) (q0 := 0) rfl rfl) (hK.sub [0] rfl) (ql_pl 6 hP rfl gi2) hS hl.1 rfl rfl (Nat.le_of_ble_eq_true rfl) dX4_goOn_68 (fun H1 locs hk hS => ?_)
      have hP := ql_keep hP hk
      refine lv_aload_n hx hb dX4_goOn_71 rfl (lv_at hl 1 rfl) ?_
      refine va_get (D := (dC, dI)) (ci := 4) (v := .ref (ad 3)) (C := RX4) (T := TX4) (N := 8) hx hb hts iw_X4_goOn_X4 hown hK.1 hP 0 rfl rfl 3 (by decide) fl21 (fun _ h9 => h9) rfl dX4_goOn_72 ?_
      refine lv_iload_n hx hb dX4_goOn_75 rfl (lv_at hl 4 rfl) ?_
      have g0 := ql_in (ql_gt hf)
      have hf := ql_gx hf
      refine va_iald (f := (z.1 3)) hx hb hK.1 hP 4 0 rfl rfl g0 dX4_goOn_76 ?_
      refine lv_iconst (v := 1) hx hb dX4_goOn_77 (by decide) ?_
      refine lv_iadd hx hb dX4_goOn_78 ?_
      refine lv_lload hx hb dX4_goOn_79 (lv_at hl 0 rfl) ?_
      obtain ⟨u4, hu4, hf⟩ := ql_bd hf
      refine ql_callVv (As := [.int u2, .int u3, .int (((z.1 3) x3.toNatClampNeg) + 1), .long (((((z.2 4) x3.toNatClampNeg) + x4.toInt64) * 12) + ((x5 - 1) * 4).toInt64)]) (rest := []) C0 (c_X4_note l dC dI h ad cI cJ pad N P z u2 u3 (((z.1 3) x3.toNatClampNeg) + 1) (((((z.2 4) x3.toNatClampNeg) + x4.toInt64) * 12) + ((x5 - 1) * 4).toInt64) u4 hu4) (cwV 4 hts gX4_goOn_X4_note rfl rfl rfl qv_X4_note ⟨Nat.le_of_ble_eq_true rfl, Nat.le_of_ble_eq_true rfl⟩) (va_recv hK.1 hP (ci := 4) (q0 := 0) rfl rfl) hP hD hS hl.1 rfl rfl (Nat.le_of_ble_eq_true rfl) dX4_goOn_81 (fun H locs hP hD hS => ?_)
      refine lv_iinc (v := (x5 + 1)) (lv' := [(5, .int (x5 + 1)), (6, .long (((((z.2 4) x3.toNatClampNeg) + x4.toInt64) * 12) + ((x5 - 1) * 4).toInt64)), (0, .ref h), (1, .ref (pad i1 100)), (2, .ref (pad i2 100)), (3, .int x3), (4, .int x4)]) hx hb dX4_goOn_84 hl (k := 6) rfl rfl (by decide) rfl (fun ls hl => ?_)
      refine lv_goto (tgt := 12) hx hb dX4_goOn_87 (by decide) ?_
      exact ih _ _ _ _ _ _ gi1 gi2 hf _ _ _ hP hD hS (lv_sub hl [2, 3, 4, 5, 6, 0] rfl)
set_option maxHeartbeats 4000000 in
set_option maxRecDepth 100000 in
theorem w_X4_goOn_3 {p : Program} {l : Launch} {e : Env} {s : State} {m : MethodId} {args : Array Value} {below : List Frame} {meth : Method} {c : Code} {dC : Nat → ClassId} {dI : Nat → Nat → Nat} {A : Nat → Prop} {h : Nat} {ad : Nat → Nat} {cI cJ : ClassId} {pad : Nat → Nat → Nat} {res : ql_Z} (C0 : ql_C p s m args meth c cX4_goOn 8 none wsX4_goOn RX4 (dC, dI) [(cI, .int), (cJ, .long)] A) (N : Nat) (P : Nat → ql_St) : ∀ (n : Nat), ∀ (z : ql_Z) (i1 : Nat) (i2 : Nat) (x3 : Int32) (x4 : Int32), i1 < 5 → i2 < 5 → f_X4_goOn_3 N P n z i1 i2 x3 x4 = some res → ∀ (H : Heap) (locs : List Loc) (ls : Array Slot), va_P (dC, dI) vwCl ((ql_xw h ad cI cJ pad P) z) H → va_D A ((ql_xw h ad cI cJ pad P) z) → va_S A s.heap H locs → lv_has ls 8 [(0, .ref h), (1, .ref (pad i1 100)), (2, .ref (pad i2 100)), (3, .int x3), (4, .int x4)] → W p l e rm_X4_goOn s m args below meth c H locs 0 0 (ql_Qv below (dC, dI) (ql_xw h ad cI cJ pad P) A args s res) (F0 m 3 ls []) := by
  have C0q := C0
  obtain ⟨hx, hb, hr, hml, hown, hts, hlocks, hK, hA⟩ := C0q
  intro n
  induction n with
  | zero =>
    intro z i1 i2 x3 x4 gi1 gi2 hf
    rw [f_X4_goOn_3] at hf
    cases hf
  | succ n ih =>
    intro z i1 i2 x3 x4 gi1 gi2 hf H locs ls hP hD hS hl
    rw [f_X4_goOn_3] at hf
    refine lv_iload hx hb dX4_goOn_3 (lv_at hl 4 rfl) ?_
    refine lv_iconst (v := 4) hx hb dX4_goOn_5 (by decide) ?_
    refine lv_icmp_ge (tgt := 96) hx hb dX4_goOn_6 (by decide) (fun c5 => ?_) (fun c5 => ?_)
    · have hf := (if_pos c5).symm.trans hf
      exact ql_vret C0 hf hP hD hS dX4_goOn_96
    · have hf := (if_neg c5).symm.trans hf
      refine lv_iconst (v := 1) hx hb dX4_goOn_9 (by decide) ?_
      refine lv_istore (lv' := [(5, .int 1), (0, .ref h), (1, .ref (pad i1 100)), (2, .ref (pad i2 100)), (3, .int x3), (4, .int x4)]) hx hb dX4_goOn_10 hl (by decide) rfl (fun ls hl => ?_)
      exact w_X4_goOn_12 C0 N P (f_X4_goOn_3 N P n) ih N _ _ _ _ _ _ gi1 gi2 hf _ _ _ hP hD hS (lv_sub hl [1, 2, 3, 4, 5, 0] rfl)
set_option maxHeartbeats 4000000 in
set_option maxRecDepth 100000 in
theorem w_X4_goOn_0 {p : Program} {l : Launch} {e : Env} {s : State} {m : MethodId} {args : Array Value} {below : List Frame} {meth : Method} {c : Code} {dC : Nat → ClassId} {dI : Nat → Nat → Nat} {A : Nat → Prop} {h : Nat} {ad : Nat → Nat} {cI cJ : ClassId} {pad : Nat → Nat → Nat} {res : ql_Z} (C0 : ql_C p s m args meth c cX4_goOn 8 none wsX4_goOn RX4 (dC, dI) [(cI, .int), (cJ, .long)] A) (N : Nat) (P : Nat → ql_St) : ∀ (z : ql_Z) (i1 : Nat) (i2 : Nat) (x3 : Int32), i1 < 5 → i2 < 5 → f_X4_goOn_0 N P z i1 i2 x3 = some res → ∀ (H : Heap) (locs : List Loc) (ls : Array Slot), va_P (dC, dI) vwCl ((ql_xw h ad cI cJ pad P) z) H → va_D A ((ql_xw h ad cI cJ pad P) z) → va_S A s.heap H locs → lv_has ls 8 [(0, .ref h), (1, .ref (pad i1 100)), (2, .ref (pad i2 100)), (3, .int x3)] → W p l e rm_X4_goOn s m args below meth c H locs 0 0 (ql_Qv below (dC, dI) (ql_xw h ad cI cJ pad P) A args s res) (F0 m 0 ls []) := by
  have C0q := C0
  obtain ⟨hx, hb, hr, hml, hown, hts, hlocks, hK, hA⟩ := C0q
  intro z i1 i2 x3 gi1 gi2 hf H locs ls hP hD hS hl
  unfold f_X4_goOn_0 at hf
  refine lv_iconst (v := 0) hx hb dX4_goOn_0 (by decide) ?_
  refine lv_istore (lv' := [(4, .int 0), (0, .ref h), (1, .ref (pad i1 100)), (2, .ref (pad i2 100)), (3, .int x3)]) hx hb dX4_goOn_1 hl (by decide) rfl (fun ls hl => ?_)
  exact w_X4_goOn_3 C0 N P N _ _ _ _ _ gi1 gi2 hf _ _ _ hP hD hS (lv_sub hl [1, 2, 3, 4, 0] rfl)
set_option maxRecDepth 100000 in
theorem c_X4_goOn (l : Launch) (dC : Nat → ClassId) (dI : Nat → Nat → Nat) (h : Nat) (ad : Nat → Nat) (cI cJ : ClassId) (pad : Nat → Nat → Nat) (N : Nat) (P : Nat → ql_St) (z : ql_Z) (i1 : Nat) (i2 : Nat) (x3 : Int32) (gi1 : i1 < 5) (gi2 : i2 < 5) (res : ql_Z) (hf : f_X4_goOn N P z i1 i2 x3 = some res) : ql_Mv l yX4_goOn wsX4_goOn rm_X4_goOn (dC, dI) [(cI, .int), (cJ, .long)] (ql_xw h ad cI cJ pad P) [.ref h, .ref (pad i1 100), .ref (pad i2 100), .int x3] z res :=
  ql_start_v (by decide) rfl (Nat.le_of_ble_eq_true rfl) (fun p e s m below meth c A ls C0 hl hP hD hS => w_X4_goOn_0 C0 N P z i1 i2 x3 gi1 gi2 hf s.heap [] ls hP hD hS (lv_sub (show lv_has ls 8 [(0, .ref h), (1, .ref (pad i1 100)), (2, .ref (pad i2 100)), (3, .int x3)] from hl) [0, 1, 2, 3] rfl))
/-! ===== TestedLoops$Pairs.findRow(LTestedLoops$Plan;LTestedLoops$Plan;Z)Z ===== -/
abbrev rm_X4_findRow : Room := { frames := 4, cells := 0, slots := 0, locals := 95 }
theorem iw_X4_findRow_X4 : ∀ w ∈ wsX40, w ∈ wsX4_findRow := fun w h => List.mem_cons_of_mem _ (List.mem_append_left _ (List.mem_append_right _ h))
theorem iw_X4_findRow_X6 : ∀ w ∈ wsX60, w ∈ wsX4_findRow := fun w h => List.mem_cons_of_mem _ (List.mem_append_right _ h)
theorem qv_X4_findRow : yX4_findRow.cls = RX4 ∧ yX4_findRow.cls ≠ "java/lang/invoke/MethodHandle" ∧ yX4_findRow.cls ≠ "java/lang/invoke/VarHandle" ∧ (parseMethodDescriptor yX4_findRow.desc).map (fun d => d.parameters.length) = some 3 := by decide +kernel
def f_X4_findRow_161 (N : Nat) (P : Nat → ql_St) (k43 : ql_Z → Nat → Nat → Int32 → Int32 → Option (Int32 × ql_Z)) (k65 : ql_Z → Nat → Nat → Int32 → Int32 → Int32 → Option (Int32 × ql_Z)) (z : ql_Z) (i1 : Nat) (i2 : Nat) (x3 : Int32) (x4 : Int32) (x5 : Int32) : Option (Int32 × ql_Z) := k65 z i1 i2 x3 x4 (x5 + 1)
def f_X4_findRow_133 (N : Nat) (P : Nat → ql_St) (z : ql_Z) (x4 : Int32) (x5 : Int32) : Option (Int32 × ql_Z) := if ql_ib x4 324 = true then if ql_ib x4 324 = true then some (1, ((ql_up z.1 6 (fun _ => ((z.1 3) x4.toNatClampNeg))), (ql_uq z.2 7 (fun _ => (((z.2 4) x4.toNatClampNeg) + x5.toInt64))))) else none else none
def f_X4_findRow_115 (N : Nat) (P : Nat → ql_St) (k43 : ql_Z → Nat → Nat → Int32 → Int32 → Option (Int32 × ql_Z)) (k65 : ql_Z → Nat → Nat → Int32 → Int32 → Int32 → Option (Int32 × ql_Z)) (z : ql_Z) (i1 : Nat) (i2 : Nat) (x3 : Int32) (x4 : Int32) (x5 : Int32) (x6 : Int32) (y0 : Int32) : Option (Int32 × ql_Z) := if x6 = y0 then f_X4_findRow_161 N P k43 k65 z i1 i2 x3 x4 x5 else if x3 = 0 then if x6 = 0 then f_X4_findRow_161 N P k43 k65 z i1 i2 x3 x4 x5 else f_X4_findRow_133 N P z x4 x5 else f_X4_findRow_133 N P z x4 x5
def f_X4_findRow_92 (N : Nat) (P : Nat → ql_St) (k43 : ql_Z → Nat → Nat → Int32 → Int32 → Option (Int32 × ql_Z)) (k65 : ql_Z → Nat → Nat → Int32 → Int32 → Int32 → Option (Int32 × ql_Z)) (z : ql_Z) (i1 : Nat) (i2 : Nat) (x3 : Int32) (x4 : Int32) (x5 : Int32) (y0 : Int32) : Option (Int32 × ql_Z) := if ql_ib x4 324 = true then (f_X6_goes N (P i2) ((z.1 2) x4.toNatClampNeg) x5).bind fun u4 => if u4 = 0 then f_X4_findRow_115 N P k43 k65 z i1 i2 x3 x4 x5 y0 1 else f_X4_findRow_115 N P k43 k65 z i1 i2 x3 x4 x5 y0 0 else none
def f_X4_findRow_65 (N : Nat) (P : Nat → ql_St) (k43 : ql_Z → Nat → Nat → Int32 → Int32 → Option (Int32 × ql_Z)) : Nat → ql_Z → Nat → Nat → Int32 → Int32 → Int32 → Option (Int32 × ql_Z)
  | 0, _, _, _, _, _, _ => none
  | n + 1, z, i1, i2, x3, x4, x5 => if 4 ≤ x5 then (f_X4_goOn N P z i1 i2 x4).bind fun u7 => k43 u7 i1 i2 x3 (x4 + 1) else if ql_ib x4 324 = true then (f_X6_goes N (P i1) ((z.1 1) x4.toNatClampNeg) x5).bind fun u8 => if u8 = 0 then f_X4_findRow_92 N P k43 (f_X4_findRow_65 N P k43 n) z i1 i2 x3 x4 x5 1 else f_X4_findRow_92 N P k43 (f_X4_findRow_65 N P k43 n) z i1 i2 x3 x4 x5 0 else none
def f_X4_findRow_43 (N : Nat) (P : Nat → ql_St) : Nat → ql_Z → Nat → Nat → Int32 → Int32 → Option (Int32 × ql_Z)
  | 0, _, _, _, _, _ => none
  | n + 1, z, i1, i2, x3, x4 => if (z.1 5 0) ≤ x4 then some (0, z) else if 324 ≤ x4 then some (0, z) else f_X4_findRow_65 N P (f_X4_findRow_43 N P n) N z i1 i2 x3 x4 0
def f_X4_findRow_3 (N : Nat) (P : Nat → ql_St) : Nat → ql_Z → Nat → Nat → Int32 → Int32 → Option (Int32 × ql_Z)
  | 0, _, _, _, _, _ => none
  | n + 1, z, i1, i2, x3, x4 => if 324 ≤ x4 then (f_X4_note N P ((ql_up z.1 5 (fun _ => 0)), z.2) 0 0 0 0).bind fun u13 => f_X4_findRow_43 N P N u13 i1 i2 x3 0 else if ql_ib x4 324 = true then f_X4_findRow_3 N P n ((ql_up z.1 0 (upd (z.1 0) x4.toNatClampNeg 0)), z.2) i1 i2 x3 (x4 + 1) else none
def f_X4_findRow_0 (N : Nat) (P : Nat → ql_St) (z : ql_Z) (i1 : Nat) (i2 : Nat) (x3 : Int32) : Option (Int32 × ql_Z) := f_X4_findRow_3 N P N z i1 i2 x3 0
def f_X4_findRow (N : Nat) (P : Nat → ql_St) (z : ql_Z) (i1 : Nat) (i2 : Nat) (x3 : Int32) : Option (Int32 × ql_Z) := f_X4_findRow_0 N P z i1 i2 x3
set_option maxHeartbeats 4000000 in
set_option maxRecDepth 100000 in
theorem w_X4_findRow_161 {p : Program} {l : Launch} {e : Env} {s : State} {m : MethodId} {args : Array Value} {below : List Frame} {meth : Method} {c : Code} {dC : Nat → ClassId} {dI : Nat → Nat → Nat} {A : Nat → Prop} {h : Nat} {ad : Nat → Nat} {cI cJ : ClassId} {pad : Nat → Nat → Nat} {res : Int32 × ql_Z} (C0 : ql_C p s m args meth c cX4_findRow 8 (some .boolean) wsX4_findRow RX4 (dC, dI) [(cI, .int), (cJ, .long)] A) (N : Nat) (P : Nat → ql_St) (k43 : ql_Z → Nat → Nat → Int32 → Int32 → Option (Int32 × ql_Z)) (hk43 : ∀ (z : ql_Z) (i1 : Nat) (i2 : Nat) (x3 : Int32) (x4 : Int32), i1 < 5 → i2 < 5 → k43 z i1 i2 x3 x4 = some res → ∀ (H : Heap) (locs : List Loc) (ls : Array Slot), va_P (dC, dI) vwCl ((ql_xw h ad cI cJ pad P) z) H → va_D A ((ql_xw h ad cI cJ pad P) z) → va_S A s.heap H locs → lv_has ls 8 [(0, .ref h), (1, .ref (pad i1 100)), (2, .ref (pad i2 100)), (3, .int x3), (4, .int x4)] → W p l e rm_X4_findRow s m args below meth c H locs 0 0 (ql_Qi below (dC, dI) (ql_xw h ad cI cJ pad P) A args s res) (F0 m 43 ls [])) (k65 : ql_Z → Nat → Nat → Int32 → Int32 → Int32 → Option (Int32 × ql_Z)) (hk65 : ∀ (z : ql_Z) (i1 : Nat) (i2 : Nat) (x3 : Int32) (x4 : Int32) (x5 : Int32), i1 < 5 → i2 < 5 → k65 z i1 i2 x3 x4 x5 = some res → ∀ (H : Heap) (locs : List Loc) (ls : Array Slot), va_P (dC, dI) vwCl ((ql_xw h ad cI cJ pad P) z) H → va_D A ((ql_xw h ad cI cJ pad P) z) → va_S A s.heap H locs → lv_has ls 8 [(0, .ref h), (1, .ref (pad i1 100)), (2, .ref (pad i2 100)), (3, .int x3), (4, .int x4), (5, .int x5)] → W p l e rm_X4_findRow s m args below meth c H locs 0 0 (ql_Qi below (dC, dI) (ql_xw h ad cI cJ pad P) A args s res) (F0 m 65 ls [])) : ∀ (z : ql_Z) (i1 : Nat) (i2 : Nat) (x3 : Int32) (x4 : Int32) (x5 : Int32), i1 < 5 → i2 < 5 → f_X4_findRow_161 N P k43 k65 z i1 i2 x3 x4 x5 = some res → ∀ (H : Heap) (locs : List Loc) (ls : Array Slot), va_P (dC, dI) vwCl ((ql_xw h ad cI cJ pad P) z) H → va_D A ((ql_xw h ad cI cJ pad P) z) → va_S A s.heap H locs → lv_has ls 8 [(0, .ref h), (1, .ref (pad i1 100)), (2, .ref (pad i2 100)), (3, .int x3), (4, .int x4), (5, .int x5)] → W p l e rm_X4_findRow s m args below meth c H locs 0 0 (ql_Qi below (dC, dI) (ql_xw h ad cI cJ pad P) A args s res) (F0 m 161 ls []) := by
  have C0q := C0
  obtain ⟨hx, hb, hr, hml, hown, hts, hlocks, hK, hA⟩ := C0q
  intro z i1 i2 x3 x4 x5 gi1 gi2 hf H locs ls hP hD hS hl
  unfold f_X4_findRow_161 at hf
  refine lv_iinc (v := (x5 + 1)) (lv' := [(5, .int (x5 + 1)), (0, .ref h), (1, .ref (pad i1 100)), (2, .ref (pad i2 100)), (3, .int x3), (4, .int x4)]) hx hb dX4_findRow_161 hl (k := 5) rfl rfl (by decide) rfl (fun ls hl => ?_)
  refine lv_goto (tgt := 65) hx hb dX4_findRow_164 (by decide) ?_
  exact hk65 _ _ _ _ _ _ gi1 gi2 hf _ _ _ hP hD hS (lv_sub hl [1, 2, 3, 4, 5, 0] rfl)
set_option maxHeartbeats 4000000 in
set_option maxRecDepth 100000 in
theorem w_X4_findRow_133 {p : Program} {l : Launch} {e : Env} {s : State} {m : MethodId} {args : Array Value} {below : List Frame} {meth : Method} {c : Code} {dC : Nat → ClassId} {dI : Nat → Nat → Nat} {A : Nat → Prop} {h : Nat} {ad : Nat → Nat} {cI cJ : ClassId} {pad : Nat → Nat → Nat} {res : Int32 × ql_Z} (C0 : ql_C p s m args meth c cX4_findRow 8 (some .boolean) wsX4_findRow RX4 (dC, dI) [(cI, .int), (cJ, .long)] A) (N : Nat) (P : Nat → ql_St) : ∀ (z : ql_Z) (x4 : Int32) (x5 : Int32), f_X4_findRow_133 N P z x4 x5 = some res → ∀ (H : Heap) (locs : List Loc) (ls : Array Slot), va_P (dC, dI) vwCl ((ql_xw h ad cI cJ pad P) z) H → va_D A ((ql_xw h ad cI cJ pad P) z) → va_S A s.heap H locs → lv_has ls 8 [(0, .ref h), (4, .int x4), (5, .int x5)] → W p l e rm_X4_findRow s m args below meth c H locs 0 0 (ql_Qi below (dC, dI) (ql_xw h ad cI cJ pad P) A args s res) (F0 m 133 ls []) := by
  have C0q := C0
  obtain ⟨hx, hb, hr, hml, hown, hts, hlocks, hK, hA⟩ := C0q
  have fl21 := hts (Cond.fieldLink RX4 21 "TestedLoops$Pairs" "acts" "[I") (by decide +kernel)
  have fl42 := hts (Cond.fieldLink RX4 42 "TestedLoops$Pairs" "foundActs" "I") (by decide +kernel)
  have fl24 := hts (Cond.fieldLink RX4 24 "TestedLoops$Pairs" "rows" "[J") (by decide +kernel)
  have fl45 := hts (Cond.fieldLink RX4 45 "TestedLoops$Pairs" "foundRow" "J") (by decide +kernel)
  intro z x4 x5 hf H locs ls hP hD hS hl
  unfold f_X4_findRow_133 at hf
  refine lv_aload_n hx hb dX4_findRow_133 rfl (lv_at hl 0 rfl) ?_
  refine lv_aload_n hx hb dX4_findRow_134 rfl (lv_at hl 0 rfl) ?_
  refine va_get (D := (dC, dI)) (ci := 4) (v := .ref (ad 3)) (C := RX4) (T := TX4) (N := 8) hx hb hts iw_X4_findRow_X4 hown hK.1 hP 0 rfl rfl 3 (by decide) fl21 (fun _ h9 => h9) rfl dX4_findRow_135 ?_
  refine lv_iload hx hb dX4_findRow_138 (lv_at hl 1 rfl) ?_
  have g0 := ql_in (ql_gt hf)
  have hf := ql_gx hf
  refine va_iald (f := (z.1 3)) hx hb hK.1 hP 4 0 rfl rfl g0 dX4_findRow_140 ?_
  refine va_put (D := (dC, dI)) (ci := 4) (v := .int ((z.1 3) x4.toNatClampNeg)) (ty := .int) (C := RX4) (T := TX4) (N := 8) hx hb hts iw_X4_findRow_X4 tyX4 tyX4_ok nmX4 hown hK.1 hP hD hS 0 rfl rfl 6 (by decide) fl42 (fun _ h9 => h9) rfl (by decide +kernel) rfl rfl (Nat.le_of_ble_eq_true rfl) dX4_findRow_141 (fun H locs hP hD hS => ?_)
  refine lv_aload_n hx hb dX4_findRow_144 rfl (lv_at hl 0 rfl) ?_
  refine lv_aload_n hx hb dX4_findRow_145 rfl (lv_at hl 0 rfl) ?_
  refine va_get (D := (dC, dI)) (ci := 4) (v := .ref (ad 4)) (C := RX4) (T := TX4) (N := 8) hx hb hts iw_X4_findRow_X4 hown hK.1 hP 0 rfl rfl 4 (by decide) fl24 (fun _ h9 => h9) rfl dX4_findRow_146 ?_
  refine lv_iload hx hb dX4_findRow_149 (lv_at hl 1 rfl) ?_
  have g0 := ql_in (ql_gt hf)
  have hf := ql_gx hf
  refine va_lald (f := (z.2 4)) hx hb hK.1 hP 5 1 rfl rfl g0 dX4_findRow_151 ?_
  refine lv_iload hx hb dX4_findRow_152 (lv_at hl 2 rfl) ?_
  refine lv_i2l hx hb dX4_findRow_154 rfl ?_
  refine lv_ladd hx hb dX4_findRow_155 ?_
  refine va_put (D := (dC, dI)) (ci := 4) (v := .long (((z.2 4) x4.toNatClampNeg) + x5.toInt64)) (ty := .long) (C := RX4) (T := TX4) (N := 8) hx hb hts iw_X4_findRow_X4 tyX4 tyX4_ok nmX4 hown hK.1 hP hD hS 0 rfl rfl 7 (by decide) fl45 (fun _ h9 => h9) rfl (by decide +kernel) rfl rfl (Nat.le_of_ble_eq_true rfl) dX4_findRow_156 (fun H locs hP hD hS => ?_)
  refine lv_iconst (v := 1) hx hb dX4_findRow_159 (by decide) ?_
  exact ql_zret C0 (Or.inr rfl) hf hP hD hS dX4_findRow_160
set_option maxHeartbeats 4000000 in
set_option maxRecDepth 100000 in
theorem w_X4_findRow_115 {p : Program} {l : Launch} {e : Env} {s : State} {m : MethodId} {args : Array Value} {below : List Frame} {meth : Method} {c : Code} {dC : Nat → ClassId} {dI : Nat → Nat → Nat} {A : Nat → Prop} {h : Nat} {ad : Nat → Nat} {cI cJ : ClassId} {pad : Nat → Nat → Nat} {res : Int32 × ql_Z} (C0 : ql_C p s m args meth c cX4_findRow 8 (some .boolean) wsX4_findRow RX4 (dC, dI) [(cI, .int), (cJ, .long)] A) (N : Nat) (P : Nat → ql_St) (k43 : ql_Z → Nat → Nat → Int32 → Int32 → Option (Int32 × ql_Z)) (hk43 : ∀ (z : ql_Z) (i1 : Nat) (i2 : Nat) (x3 : Int32) (x4 : Int32), i1 < 5 → i2 < 5 → k43 z i1 i2 x3 x4 = some res → ∀ (H : Heap) (locs : List Loc) (ls : Array Slot), va_P (dC, dI) vwCl ((ql_xw h ad cI cJ pad P) z) H → va_D A ((ql_xw h ad cI cJ pad P) z) → va_S A s.heap H locs → lv_has ls 8 [(0, .ref h), (1, .ref (pad i1 100)), (2, .ref (pad i2 100)), (3, .int x3), (4, .int x4)] → W p l e rm_X4_findRow s m args below meth c H locs 0 0 (ql_Qi below (dC, dI) (ql_xw h ad cI cJ pad P) A args s res) (F0 m 43 ls [])) (k65 : ql_Z → Nat → Nat → Int32 → Int32 → Int32 → Option (Int32 × ql_Z)) (hk65 : ∀ (z : ql_Z) (i1 : Nat) (i2 : Nat) (x3 : Int32) (x4 : Int32) (x5 : Int32), i1 < 5 → i2 < 5 → k65 z i1 i2 x3 x4 x5 = some res → ∀ (H : Heap) (locs : List Loc) (ls : Array Slot), va_P (dC, dI) vwCl ((ql_xw h ad cI cJ pad P) z) H → va_D A ((ql_xw h ad cI cJ pad P) z) → va_S A s.heap H locs → lv_has ls 8 [(0, .ref h), (1, .ref (pad i1 100)), (2, .ref (pad i2 100)), (3, .int x3), (4, .int x4), (5, .int x5)] → W p l e rm_X4_findRow s m args below meth c H locs 0 0 (ql_Qi below (dC, dI) (ql_xw h ad cI cJ pad P) A args s res) (F0 m 65 ls [])) : ∀ (z : ql_Z) (i1 : Nat) (i2 : Nat) (x3 : Int32) (x4 : Int32) (x5 : Int32) (x6 : Int32) (y0 : Int32), i1 < 5 → i2 < 5 → f_X4_findRow_115 N P k43 k65 z i1 i2 x3 x4 x5 x6 y0 = some res → ∀ (H : Heap) (locs : List Loc) (ls : Array Slot), va_P (dC, dI) vwCl ((ql_xw h ad cI cJ pad P) z) H → va_D A ((ql_xw h ad cI cJ pad P) z) → va_S A s.heap H locs → lv_has ls 8 [(0, .ref h), (1, .ref (pad i1 100)), (2, .ref (pad i2 100)), (3, .int x3), (4, .int x4), (5, .int x5), (6, .int x6)] → W p l e rm_X4_findRow s m args below meth c H locs 0 0 (ql_Qi below (dC, dI) (ql_xw h ad cI cJ pad P) A args s res) (F0 m 115 ls [.int y0]) := by
  have C0q := C0
  obtain ⟨hx, hb, hr, hml, hown, hts, hlocks, hK, hA⟩ := C0q
  intro z i1 i2 x3 x4 x5 x6 y0 gi1 gi2 hf H locs ls hP hD hS hl
  unfold f_X4_findRow_115 at hf
  refine lv_istore (lv' := [(7, .int y0), (0, .ref h), (1, .ref (pad i1 100)), (2, .ref (pad i2 100)), (3, .int x3), (4, .int x4), (5, .int x5), (6, .int x6)]) hx hb dX4_findRow_115 hl (by decide) rfl (fun ls hl => ?_)
  refine lv_iload hx hb dX4_findRow_117 (lv_at hl 7 rfl) ?_
  refine lv_iload hx hb dX4_findRow_119 (lv_at hl 0 rfl) ?_
  refine lv_icmp_eq (tgt := 161) hx hb dX4_findRow_121 (by decide) (fun c1 => ?_) (fun c1 => ?_)
  · have hf := (if_pos c1).symm.trans hf
    exact w_X4_findRow_161 C0 N P k43 hk43 k65 hk65 _ _ _ _ _ _ gi1 gi2 hf _ _ _ hP hD hS (lv_sub hl [1, 2, 3, 4, 5, 6] rfl)
  · have hf := (if_neg c1).symm.trans hf
    refine lv_iload_n hx hb dX4_findRow_124 rfl (lv_at hl 4 rfl) ?_
    refine lv_if_ne (tgt := 133) hx hb dX4_findRow_125 (by decide) (fun c2 => ?_) (fun c2 => ?_)
    · have hf := (if_neg c2).symm.trans hf
      exact w_X4_findRow_133 C0 N P _ _ _ hf _ _ _ hP hD hS (lv_sub hl [1, 5, 6] rfl)
    · have hf := (if_pos c2).symm.trans hf
      refine lv_iload hx hb dX4_findRow_128 (lv_at hl 7 rfl) ?_
      refine lv_if_eq (tgt := 161) hx hb dX4_findRow_130 (by decide) (fun c3 => ?_) (fun c3 => ?_)
      · have hf := (if_pos c3).symm.trans hf
        exact w_X4_findRow_161 C0 N P k43 hk43 k65 hk65 _ _ _ _ _ _ gi1 gi2 hf _ _ _ hP hD hS (lv_sub hl [1, 2, 3, 4, 5, 6] rfl)
      · have hf := (if_neg c3).symm.trans hf
        exact w_X4_findRow_133 C0 N P _ _ _ hf _ _ _ hP hD hS (lv_sub hl [1, 5, 6] rfl)
set_option maxHeartbeats 4000000 in
set_option maxRecDepth 100000 in
theorem w_X4_findRow_92 {p : Program} {l : Launch} {e : Env} {s : State} {m : MethodId} {args : Array Value} {below : List Frame} {meth : Method} {c : Code} {dC : Nat → ClassId} {dI : Nat → Nat → Nat} {A : Nat → Prop} {h : Nat} {ad : Nat → Nat} {cI cJ : ClassId} {pad : Nat → Nat → Nat} {res : Int32 × ql_Z} (C0 : ql_C p s m args meth c cX4_findRow 8 (some .boolean) wsX4_findRow RX4 (dC, dI) [(cI, .int), (cJ, .long)] A) (N : Nat) (P : Nat → ql_St) (k43 : ql_Z → Nat → Nat → Int32 → Int32 → Option (Int32 × ql_Z)) (hk43 : ∀ (z : ql_Z) (i1 : Nat) (i2 : Nat) (x3 : Int32) (x4 : Int32), i1 < 5 → i2 < 5 → k43 z i1 i2 x3 x4 = some res → ∀ (H : Heap) (locs : List Loc) (ls : Array Slot), va_P (dC, dI) vwCl ((ql_xw h ad cI cJ pad P) z) H → va_D A ((ql_xw h ad cI cJ pad P) z) → va_S A s.heap H locs → lv_has ls 8 [(0, .ref h), (1, .ref (pad i1 100)), (2, .ref (pad i2 100)), (3, .int x3), (4, .int x4)] → W p l e rm_X4_findRow s m args below meth c H locs 0 0 (ql_Qi below (dC, dI) (ql_xw h ad cI cJ pad P) A args s res) (F0 m 43 ls [])) (k65 : ql_Z → Nat → Nat → Int32 → Int32 → Int32 → Option (Int32 × ql_Z)) (hk65 : ∀ (z : ql_Z) (i1 : Nat) (i2 : Nat) (x3 : Int32) (x4 : Int32) (x5 : Int32), i1 < 5 → i2 < 5 → k65 z i1 i2 x3 x4 x5 = some res → ∀ (H : Heap) (locs : List Loc) (ls : Array Slot), va_P (dC, dI) vwCl ((ql_xw h ad cI cJ pad P) z) H → va_D A ((ql_xw h ad cI cJ pad P) z) → va_S A s.heap H locs → lv_has ls 8 [(0, .ref h), (1, .ref (pad i1 100)), (2, .ref (pad i2 100)), (3, .int x3), (4, .int x4), (5, .int x5)] → W p l e rm_X4_findRow s m args below meth c H locs 0 0 (ql_Qi below (dC, dI) (ql_xw h ad cI cJ pad P) A args s res) (F0 m 65 ls [])) : ∀ (z : ql_Z) (i1 : Nat) (i2 : Nat) (x3 : Int32) (x4 : Int32) (x5 : Int32) (y0 : Int32), i1 < 5 → i2 < 5 → f_X4_findRow_92 N P k43 k65 z i1 i2 x3 x4 x5 y0 = some res → ∀ (H : Heap) (locs : List Loc) (ls : Array Slot), va_P (dC, dI) vwCl ((ql_xw h ad cI cJ pad P) z) H → va_D A ((ql_xw h ad cI cJ pad P) z) → va_S A s.heap H locs → lv_has ls 8 [(0, .ref h), (1, .ref (pad i1 100)), (2, .ref (pad i2 100)), (3, .int x3), (4, .int x4), (5, .int x5)] → W p l e rm_X4_findRow s m args below meth c H locs 0 0 (ql_Qi below (dC, dI) (ql_xw h ad cI cJ pad P) A args s res) (F0 m 92 ls [.int y0]) := by
  have C0q := C0
  obtain ⟨hx, hb, hr, hml, hown, hts, hlocks, hK, hA⟩ := C0q
  have fl18 := hts (Cond.fieldLink RX4 18 "TestedLoops$Pairs" "others" "[I") (by decide +kernel)
  intro z i1 i2 x3 x4 x5 y0 gi1 gi2 hf H locs ls hP hD hS hl
  unfold f_X4_findRow_92 at hf
  refine lv_istore (lv' := [(6, .int y0), (0, .ref h), (1, .ref (pad i1 100)), (2, .ref (pad i2 100)), (3, .int x3), (4, .int x4), (5, .int x5)]) hx hb dX4_findRow_92 hl (by decide) rfl (fun ls hl => ?_)
  refine lv_aload_n hx hb dX4_findRow_94 rfl (lv_at hl 3 rfl) ?_
  refine lv_aload_n hx hb dX4_findRow_95 rfl (lv_at hl 1 rfl) ?_
  refine va_get (D := (dC, dI)) (ci := 4) (v := .ref (ad 2)) (C := RX4) (T := TX4) (N := 8) hx hb hts iw_X4_findRow_X4 hown hK.1 hP 0 rfl rfl 2 (by decide) fl18 (fun _ h9 => h9) rfl dX4_findRow_96 ?_
  refine lv_iload hx hb dX4_findRow_99 (lv_at hl 5 rfl) ?_
  have g0 := ql_in (ql_gt hf)
  have hf := ql_gx hf
  refine va_iald (f := (z.1 2)) hx hb hK.1 hP 3 0 rfl rfl g0 dX4_findRow_101 ?_
  refine lv_iload hx hb dX4_findRow_102 (lv_at hl 6 rfl) ?_
  obtain ⟨u4, hu4, hf⟩ := ql_bd hf
  refine ql_callRVi (As := [.int ((z.1 2) x4.toNatClampNeg), .int x5]) (rest := []) C0 (c_X6_goes l dC dI (pad i2 100) (pad i2) cI N (P i2) ((z.1 2) x4.toNatClampNeg) x5 u4 hu4) (cwV 2 hts gX4_findRow_X6_goes rfl rfl rfl qv_X6_goes ⟨Nat.le_of_ble_eq_true rfl, Nat.le_of_ble_eq_true rfl⟩) (va_recv hK.1 (ql_pl 6 hP rfl gi2) (ci := 6) (q0 := 0) rfl rfl) (hK.sub [0] rfl) (ql_pl 6 hP rfl gi2) hS hl.1 rfl rfl (Nat.le_of_ble_eq_true rfl) dX4_findRow_104 (fun H1 locs hk hS => ?_)
  have hP := ql_keep hP hk
  refine lv_if_ne (tgt := 114) hx hb dX4_findRow_107 (by decide) (fun c5 => ?_) (fun c5 => ?_)
  · have hf := (if_neg c5).symm.trans hf
    refine lv_iconst (v := 0) hx hb dX4_findRow_114 (by decide) ?_
    exact w_X4_findRow_115 C0 N P k43 hk43 k65 hk65 _ _ _ _ _ _ _ _ gi1 gi2 hf _ _ _ hP hD hS (lv_sub hl [1, 2, 3, 4, 5, 6, 0] rfl)
  · have hf := (if_pos c5).symm.trans hf
    refine lv_iconst (v := 1) hx hb dX4_findRow_110 (by decide) ?_
    refine lv_goto (tgt := 115) hx hb dX4_findRow_111 (by decide) ?_
    exact w_X4_findRow_115 C0 N P k43 hk43 k65 hk65 _ _ _ _ _ _ _ _ gi1 gi2 hf _ _ _ hP hD hS (lv_sub hl [1, 2, 3, 4, 5, 6, 0] rfl)
set_option maxHeartbeats 4000000 in
set_option maxRecDepth 100000 in
theorem w_X4_findRow_65 {p : Program} {l : Launch} {e : Env} {s : State} {m : MethodId} {args : Array Value} {below : List Frame} {meth : Method} {c : Code} {dC : Nat → ClassId} {dI : Nat → Nat → Nat} {A : Nat → Prop} {h : Nat} {ad : Nat → Nat} {cI cJ : ClassId} {pad : Nat → Nat → Nat} {res : Int32 × ql_Z} (C0 : ql_C p s m args meth c cX4_findRow 8 (some .boolean) wsX4_findRow RX4 (dC, dI) [(cI, .int), (cJ, .long)] A) (N : Nat) (P : Nat → ql_St) (k43 : ql_Z → Nat → Nat → Int32 → Int32 → Option (Int32 × ql_Z)) (hk43 : ∀ (z : ql_Z) (i1 : Nat) (i2 : Nat) (x3 : Int32) (x4 : Int32), i1 < 5 → i2 < 5 → k43 z i1 i2 x3 x4 = some res → ∀ (H : Heap) (locs : List Loc) (ls : Array Slot), va_P (dC, dI) vwCl ((ql_xw h ad cI cJ pad P) z) H → va_D A ((ql_xw h ad cI cJ pad P) z) → va_S A s.heap H locs → lv_has ls 8 [(0, .ref h), (1, .ref (pad i1 100)), (2, .ref (pad i2 100)), (3, .int x3), (4, .int x4)] → W p l e rm_X4_findRow s m args below meth c H locs 0 0 (ql_Qi below (dC, dI) (ql_xw h ad cI cJ pad P) A args s res) (F0 m 43 ls [])) : ∀ (n : Nat), ∀ (z : ql_Z) (i1 : Nat) (i2 : Nat) (x3 : Int32) (x4 : Int32) (x5 : Int32), i1 < 5 → i2 < 5 → f_X4_findRow_65 N P k43 n z i1 i2 x3 x4 x5 = some res → ∀ (H : Heap) (locs : List Loc) (ls : Array Slot), va_P (dC, dI) vwCl ((ql_xw h ad cI cJ pad P) z) H → va_D A ((ql_xw h ad cI cJ pad P) z) → va_S A s.heap H locs → lv_has ls 8 [(0, .ref h), (1, .ref (pad i1 100)), (2, .ref (pad i2 100)), (3, .int x3), (4, .int x4), (5, .int x5)] → W p l e rm_X4_findRow s m args below meth c H locs 0 0 (ql_Qi below (dC, dI) (ql_xw h ad cI cJ pad P) A args s res) (F0 m 65 ls []) := by
  have C0q := C0
  obtain ⟨hx, hb, hr, hml, hown, hts, hlocks, hK, hA⟩ := C0q
  have fl15 := hts (Cond.fieldLink RX4 15 "TestedLoops$Pairs" "ones" "[I") (by decide +kernel)
  intro n
  induction n with
  | zero =>
    intro z i1 i2 x3 x4 x5 gi1 gi2 hf
    rw [f_X4_findRow_65] at hf
    cases hf
  | succ n ih =>
    intro z i1 i2 x3 x4 x5 gi1 gi2 hf H locs ls hP hD hS hl
    rw [f_X4_findRow_65] at hf
    refine lv_iload hx hb dX4_findRow_65 (lv_at hl 5 rfl) ?_
    refine lv_iconst (v := 4) hx hb dX4_findRow_67 (by decide) ?_
    refine lv_icmp_ge (tgt := 167) hx hb dX4_findRow_68 (by decide) (fun c6 => ?_) (fun c6 => ?_)
    · have hf := (if_pos c6).symm.trans hf
      refine lv_aload_n hx hb dX4_findRow_167 rfl (lv_at hl 0 rfl) ?_
      refine lv_aload_n hx hb dX4_findRow_168 rfl (lv_at hl 1 rfl) ?_
      refine lv_aload_n hx hb dX4_findRow_169 rfl (lv_at hl 2 rfl) ?_
      refine lv_iload hx hb dX4_findRow_170 (lv_at hl 4 rfl) ?_
      obtain ⟨u7, hu7, hf⟩ := ql_bd hf
      refine ql_callVv (As := [.ref (pad i1 100), .ref (pad i2 100), .int x4]) (rest := []) C0 (c_X4_goOn l dC dI h ad cI cJ pad N P z i1 i2 x4 gi1 gi2 u7 hu7) (cwV 3 hts gX4_findRow_X4_goOn rfl rfl rfl qv_X4_goOn ⟨Nat.le_of_ble_eq_true rfl, Nat.le_of_ble_eq_true rfl⟩) (va_recv hK.1 hP (ci := 4) (q0 := 0) rfl rfl) hP hD hS hl.1 rfl rfl (Nat.le_of_ble_eq_true rfl) dX4_findRow_172 (fun H locs hP hD hS => ?_)
      refine lv_iinc (v := (x4 + 1)) (lv' := [(4, .int (x4 + 1)), (0, .ref h), (1, .ref (pad i1 100)), (2, .ref (pad i2 100)), (3, .int x3), (5, .int x5)]) hx hb dX4_findRow_175 hl (k := 4) rfl rfl (by decide) rfl (fun ls hl => ?_)
      refine lv_goto (tgt := 43) hx hb dX4_findRow_178 (by decide) ?_
      exact hk43 _ _ _ _ _ gi1 gi2 hf _ _ _ hP hD hS (lv_sub hl [1, 2, 3, 4, 0] rfl)
    · have hf := (if_neg c6).symm.trans hf
      refine lv_aload_n hx hb dX4_findRow_71 rfl (lv_at hl 1 rfl) ?_
      refine lv_aload_n hx hb dX4_findRow_72 rfl (lv_at hl 0 rfl) ?_
      refine va_get (D := (dC, dI)) (ci := 4) (v := .ref (ad 1)) (C := RX4) (T := TX4) (N := 8) hx hb hts iw_X4_findRow_X4 hown hK.1 hP 0 rfl rfl 1 (by decide) fl15 (fun _ h9 => h9) rfl dX4_findRow_73 ?_
      refine lv_iload hx hb dX4_findRow_76 (lv_at hl 4 rfl) ?_
      have g0 := ql_in (ql_gt hf)
      have hf := ql_gx hf
      refine va_iald (f := (z.1 1)) hx hb hK.1 hP 2 0 rfl rfl g0 dX4_findRow_78 ?_
      refine lv_iload hx hb dX4_findRow_79 (lv_at hl 5 rfl) ?_
      obtain ⟨u8, hu8, hf⟩ := ql_bd hf
      refine ql_callRVi (As := [.int ((z.1 1) x4.toNatClampNeg), .int x5]) (rest := []) C0 (c_X6_goes l dC dI (pad i1 100) (pad i1) cI N (P i1) ((z.1 1) x4.toNatClampNeg) x5 u8 hu8) (cwV 2 hts gX4_findRow_X6_goes rfl rfl rfl qv_X6_goes ⟨Nat.le_of_ble_eq_true rfl, Nat.le_of_ble_eq_true rfl⟩) (va_recv hK.1 (ql_pl 6 hP rfl gi1) (ci := 6) (q0 := 0) rfl rfl) (hK.sub [0] rfl) (ql_pl 6 hP rfl gi1) hS hl.1 rfl rfl (Nat.le_of_ble_eq_true rfl) dX4_findRow_81 (fun H1 locs hk hS => ?_)
      have hP := ql_keep hP hk
      refine lv_if_ne (tgt := 91) hx hb dX4_findRow_84 (by decide) (fun c9 => ?_) (fun c9 => ?_)
      · have hf := (if_neg c9).symm.trans hf
        refine lv_iconst (v := 0) hx hb dX4_findRow_91 (by decide) ?_
        exact w_X4_findRow_92 C0 N P k43 hk43 (f_X4_findRow_65 N P k43 n) ih _ _ _ _ _ _ _ gi1 gi2 hf _ _ _ hP hD hS (lv_sub hl [0, 1, 2, 3, 4, 5] rfl)
      · have hf := (if_pos c9).symm.trans hf
        refine lv_iconst (v := 1) hx hb dX4_findRow_87 (by decide) ?_
        refine lv_goto (tgt := 92) hx hb dX4_findRow_88 (by decide) ?_
        exact w_X4_findRow_92 C0 N P k43 hk43 (f_X4_findRow_65 N P k43 n) ih _ _ _ _ _ _ _ gi1 gi2 hf _ _ _ hP hD hS (lv_sub hl [0, 1, 2, 3, 4, 5] rfl)
set_option maxHeartbeats 4000000 in
set_option maxRecDepth 100000 in
theorem w_X4_findRow_43 {p : Program} {l : Launch} {e : Env} {s : State} {m : MethodId} {args : Array Value} {below : List Frame} {meth : Method} {c : Code} {dC : Nat → ClassId} {dI : Nat → Nat → Nat} {A : Nat → Prop} {h : Nat} {ad : Nat → Nat} {cI cJ : ClassId} {pad : Nat → Nat → Nat} {res : Int32 × ql_Z} (C0 : ql_C p s m args meth c cX4_findRow 8 (some .boolean) wsX4_findRow RX4 (dC, dI) [(cI, .int), (cJ, .long)] A) (N : Nat) (P : Nat → ql_St) : ∀ (n : Nat), ∀ (z : ql_Z) (i1 : Nat) (i2 : Nat) (x3 : Int32) (x4 : Int32), i1 < 5 → i2 < 5 → f_X4_findRow_43 N P n z i1 i2 x3 x4 = some res → ∀ (H : Heap) (locs : List Loc) (ls : Array Slot), va_P (dC, dI) vwCl ((ql_xw h ad cI cJ pad P) z) H → va_D A ((ql_xw h ad cI cJ pad P) z) → va_S A s.heap H locs → lv_has ls 8 [(0, .ref h), (1, .ref (pad i1 100)), (2, .ref (pad i2 100)), (3, .int x3), (4, .int x4)] → W p l e rm_X4_findRow s m args below meth c H locs 0 0 (ql_Qi below (dC, dI) (ql_xw h ad cI cJ pad P) A args s res) (F0 m 43 ls []) := by
  have C0q := C0
  obtain ⟨hx, hb, hr, hml, hown, hts, hlocks, hK, hA⟩ := C0q
  have fl28 := hts (Cond.fieldLink RX4 28 "TestedLoops$Pairs" "known" "I") (by decide +kernel)
  have fl11 := hts (Cond.fieldLink RX4 11 "TestedLoops$Pairs" "seen" "[I") (by decide +kernel)
  intro n
  induction n with
  | zero =>
    intro z i1 i2 x3 x4 gi1 gi2 hf
    rw [f_X4_findRow_43] at hf
    cases hf
  | succ n ih =>
    intro z i1 i2 x3 x4 gi1 gi2 hf H locs ls hP hD hS hl
    rw [f_X4_findRow_43] at hf
    refine lv_iload hx hb dX4_findRow_43 (lv_at hl 4 rfl) ?_
    refine lv_aload_n hx hb dX4_findRow_45 rfl (lv_at hl 0 rfl) ?_
    refine va_get (D := (dC, dI)) (ci := 4) (v := .int (z.1 5 0)) (C := RX4) (T := TX4) (N := 8) hx hb hts iw_X4_findRow_X4 hown hK.1 hP 0 rfl rfl 5 (by decide) fl28 (fun _ h9 => h9) rfl dX4_findRow_46 ?_
    refine lv_icmp_ge (tgt := 181) hx hb dX4_findRow_49 (by decide) (fun c10 => ?_) (fun c10 => ?_)
    · have hf := (if_pos c10).symm.trans hf
      refine lv_iconst (v := 0) hx hb dX4_findRow_181 (by decide) ?_
      exact ql_zret C0 (Or.inl rfl) hf hP hD hS dX4_findRow_182
    · have hf := (if_neg c10).symm.trans hf
      refine lv_iload hx hb dX4_findRow_52 (lv_at hl 4 rfl) ?_
      refine lv_aload_n hx hb dX4_findRow_54 rfl (lv_at hl 0 rfl) ?_
      refine va_get (D := (dC, dI)) (ci := 4) (v := .ref (ad 0)) (C := RX4) (T := TX4) (N := 8) hx hb hts iw_X4_findRow_X4 hown hK.1 hP 0 rfl rfl 0 (by decide) fl11 (fun _ h9 => h9) rfl dX4_findRow_55 ?_
      refine va_alen (v := 324) hx hb hK.1 hP 1 0 rfl rfl (show Int32.ofNat 324 = 324 by decide) dX4_findRow_58 ?_
      refine lv_icmp_ge (tgt := 181) hx hb dX4_findRow_59 (by decide) (fun c11 => ?_) (fun c11 => ?_)
      · have hf := (if_pos c11).symm.trans hf
        refine lv_iconst (v := 0) hx hb dX4_findRow_181 (by decide) ?_
        exact ql_zret C0 (Or.inl rfl) hf hP hD hS dX4_findRow_182
      · have hf := (if_neg c11).symm.trans hf
        refine lv_iconst (v := 0) hx hb dX4_findRow_62 (by decide) ?_
        refine lv_istore (lv' := [(5, .int 0), (0, .ref h), (1, .ref (pad i1 100)), (2, .ref (pad i2 100)), (3, .int x3), (4, .int x4)]) hx hb dX4_findRow_63 hl (by decide) rfl (fun ls hl => ?_)
        exact w_X4_findRow_65 C0 N P (f_X4_findRow_43 N P n) ih N _ _ _ _ _ _ gi1 gi2 hf _ _ _ hP hD hS (lv_sub hl [1, 2, 3, 4, 5, 0] rfl)
set_option maxHeartbeats 4000000 in
set_option maxRecDepth 100000 in
theorem w_X4_findRow_3 {p : Program} {l : Launch} {e : Env} {s : State} {m : MethodId} {args : Array Value} {below : List Frame} {meth : Method} {c : Code} {dC : Nat → ClassId} {dI : Nat → Nat → Nat} {A : Nat → Prop} {h : Nat} {ad : Nat → Nat} {cI cJ : ClassId} {pad : Nat → Nat → Nat} {res : Int32 × ql_Z} (C0 : ql_C p s m args meth c cX4_findRow 8 (some .boolean) wsX4_findRow RX4 (dC, dI) [(cI, .int), (cJ, .long)] A) (N : Nat) (P : Nat → ql_St) : ∀ (n : Nat), ∀ (z : ql_Z) (i1 : Nat) (i2 : Nat) (x3 : Int32) (x4 : Int32), i1 < 5 → i2 < 5 → f_X4_findRow_3 N P n z i1 i2 x3 x4 = some res → ∀ (H : Heap) (locs : List Loc) (ls : Array Slot), va_P (dC, dI) vwCl ((ql_xw h ad cI cJ pad P) z) H → va_D A ((ql_xw h ad cI cJ pad P) z) → va_S A s.heap H locs → lv_has ls 8 [(0, .ref h), (1, .ref (pad i1 100)), (2, .ref (pad i2 100)), (3, .int x3), (4, .int x4)] → W p l e rm_X4_findRow s m args below meth c H locs 0 0 (ql_Qi below (dC, dI) (ql_xw h ad cI cJ pad P) A args s res) (F0 m 3 ls []) := by
  have C0q := C0
  obtain ⟨hx, hb, hr, hml, hown, hts, hlocks, hK, hA⟩ := C0q
  have fl11 := hts (Cond.fieldLink RX4 11 "TestedLoops$Pairs" "seen" "[I") (by decide +kernel)
  have fl28 := hts (Cond.fieldLink RX4 28 "TestedLoops$Pairs" "known" "I") (by decide +kernel)
  intro n
  induction n with
  | zero =>
    intro z i1 i2 x3 x4 gi1 gi2 hf
    rw [f_X4_findRow_3] at hf
    cases hf
  | succ n ih =>
    intro z i1 i2 x3 x4 gi1 gi2 hf H locs ls hP hD hS hl
    rw [f_X4_findRow_3] at hf
    refine lv_iload hx hb dX4_findRow_3 (lv_at hl 4 rfl) ?_
    refine lv_aload_n hx hb dX4_findRow_5 rfl (lv_at hl 0 rfl) ?_
    refine va_get (D := (dC, dI)) (ci := 4) (v := .ref (ad 0)) (C := RX4) (T := TX4) (N := 8) hx hb hts iw_X4_findRow_X4 hown hK.1 hP 0 rfl rfl 0 (by decide) fl11 (fun _ h9 => h9) rfl dX4_findRow_6 ?_
    refine va_alen (v := 324) hx hb hK.1 hP 1 0 rfl rfl (show Int32.ofNat 324 = 324 by decide) dX4_findRow_9 ?_
    refine lv_icmp_ge (tgt := 27) hx hb dX4_findRow_10 (by decide) (fun c12 => ?_) (fun c12 => ?_)
    · have hf := (if_pos c12).symm.trans hf
      refine lv_aload_n hx hb dX4_findRow_27 rfl (lv_at hl 0 rfl) ?_
      refine lv_iconst (v := 0) hx hb dX4_findRow_28 (by decide) ?_
      refine va_put (D := (dC, dI)) (ci := 4) (v := .int 0) (ty := .int) (C := RX4) (T := TX4) (N := 8) hx hb hts iw_X4_findRow_X4 tyX4 tyX4_ok nmX4 hown hK.1 hP hD hS 0 rfl rfl 5 (by decide) fl28 (fun _ h9 => h9) rfl (by decide +kernel) rfl rfl (Nat.le_of_ble_eq_true rfl) dX4_findRow_29 (fun H locs hP hD hS => ?_)
      refine lv_aload_n hx hb dX4_findRow_32 rfl (lv_at hl 0 rfl) ?_
      refine lv_iconst (v := 0) hx hb dX4_findRow_33 (by decide) ?_
      refine lv_iconst (v := 0) hx hb dX4_findRow_34 (by decide) ?_
      refine lv_iconst (v := 0) hx hb dX4_findRow_35 (by decide) ?_
      refine lv_lconst (v := 0) hx hb dX4_findRow_36 (by decide) ?_
      obtain ⟨u13, hu13, hf⟩ := ql_bd hf
      refine ql_callVv (As := [.int 0, .int 0, .int 0, .long 0]) (rest := []) C0 (c_X4_note l dC dI h ad cI cJ pad N P ((ql_up z.1 5 (fun _ => 0)), z.2) 0 0 0 0 u13 hu13) (cwV 4 hts gX4_findRow_X4_note rfl rfl rfl qv_X4_note ⟨Nat.le_of_ble_eq_true rfl, Nat.le_of_ble_eq_true rfl⟩) (va_recv hK.1 hP (ci := 4) (q0 := 0) rfl rfl) hP hD hS hl.1 rfl rfl (Nat.le_of_ble_eq_true rfl) dX4_findRow_37 (fun H locs hP hD hS => ?_)
      refine lv_iconst (v := 0) hx hb dX4_findRow_40 (by decide) ?_
      refine lv_istore (lv' := [(4, .int 0), (0, .ref h), (1, .ref (pad i1 100)), (2, .ref (pad i2 100)), (3, .int x3)]) hx hb dX4_findRow_41 hl (by decide) rfl (fun ls hl => ?_)
      exact w_X4_findRow_43 C0 N P N _ _ _ _ _ gi1 gi2 hf _ _ _ hP hD hS (lv_sub hl [1, 2, 3, 4, 0] rfl)
    · have hf := (if_neg c12).symm.trans hf
      refine lv_aload_n hx hb dX4_findRow_13 rfl (lv_at hl 0 rfl) ?_
      refine va_get (D := (dC, dI)) (ci := 4) (v := .ref (ad 0)) (C := RX4) (T := TX4) (N := 8) hx hb hts iw_X4_findRow_X4 hown hK.1 hP 0 rfl rfl 0 (by decide) fl11 (fun _ h9 => h9) rfl dX4_findRow_14 ?_
      refine lv_iload hx hb dX4_findRow_17 (lv_at hl 4 rfl) ?_
      refine lv_iconst (v := 0) hx hb dX4_findRow_19 (by decide) ?_
      have g0 := ql_in (ql_gt hf)
      have hf := ql_gx hf
      refine va_iast (f := (z.1 0)) hx hb hK.1 hP hD hS 1 0 rfl rfl g0 dX4_findRow_20 (fun H locs hP hD hS => ?_)
      refine lv_iinc (v := (x4 + 1)) (lv' := [(4, .int (x4 + 1)), (0, .ref h), (1, .ref (pad i1 100)), (2, .ref (pad i2 100)), (3, .int x3)]) hx hb dX4_findRow_21 hl (k := 4) rfl rfl (by decide) rfl (fun ls hl => ?_)
      refine lv_goto (tgt := 3) hx hb dX4_findRow_24 (by decide) ?_
      exact ih _ _ _ _ _ gi1 gi2 hf _ _ _ hP hD hS (lv_sub hl [1, 2, 3, 4, 0] rfl)
set_option maxHeartbeats 4000000 in
set_option maxRecDepth 100000 in
theorem w_X4_findRow_0 {p : Program} {l : Launch} {e : Env} {s : State} {m : MethodId} {args : Array Value} {below : List Frame} {meth : Method} {c : Code} {dC : Nat → ClassId} {dI : Nat → Nat → Nat} {A : Nat → Prop} {h : Nat} {ad : Nat → Nat} {cI cJ : ClassId} {pad : Nat → Nat → Nat} {res : Int32 × ql_Z} (C0 : ql_C p s m args meth c cX4_findRow 8 (some .boolean) wsX4_findRow RX4 (dC, dI) [(cI, .int), (cJ, .long)] A) (N : Nat) (P : Nat → ql_St) : ∀ (z : ql_Z) (i1 : Nat) (i2 : Nat) (x3 : Int32), i1 < 5 → i2 < 5 → f_X4_findRow_0 N P z i1 i2 x3 = some res → ∀ (H : Heap) (locs : List Loc) (ls : Array Slot), va_P (dC, dI) vwCl ((ql_xw h ad cI cJ pad P) z) H → va_D A ((ql_xw h ad cI cJ pad P) z) → va_S A s.heap H locs → lv_has ls 8 [(0, .ref h), (1, .ref (pad i1 100)), (2, .ref (pad i2 100)), (3, .int x3)] → W p l e rm_X4_findRow s m args below meth c H locs 0 0 (ql_Qi below (dC, dI) (ql_xw h ad cI cJ pad P) A args s res) (F0 m 0 ls []) := by
  have C0q := C0
  obtain ⟨hx, hb, hr, hml, hown, hts, hlocks, hK, hA⟩ := C0q
  intro z i1 i2 x3 gi1 gi2 hf H locs ls hP hD hS hl
  unfold f_X4_findRow_0 at hf
  refine lv_iconst (v := 0) hx hb dX4_findRow_0 (by decide) ?_
  refine lv_istore (lv' := [(4, .int 0), (0, .ref h), (1, .ref (pad i1 100)), (2, .ref (pad i2 100)), (3, .int x3)]) hx hb dX4_findRow_1 hl (by decide) rfl (fun ls hl => ?_)
  exact w_X4_findRow_3 C0 N P N _ _ _ _ _ gi1 gi2 hf _ _ _ hP hD hS (lv_sub hl [1, 2, 3, 4, 0] rfl)
set_option maxRecDepth 100000 in
theorem c_X4_findRow (l : Launch) (dC : Nat → ClassId) (dI : Nat → Nat → Nat) (h : Nat) (ad : Nat → Nat) (cI cJ : ClassId) (pad : Nat → Nat → Nat) (N : Nat) (P : Nat → ql_St) (z : ql_Z) (i1 : Nat) (i2 : Nat) (x3 : Int32) (gi1 : i1 < 5) (gi2 : i2 < 5) (res : Int32 × ql_Z) (hf : f_X4_findRow N P z i1 i2 x3 = some res) : ql_Mi l yX4_findRow wsX4_findRow rm_X4_findRow (dC, dI) [(cI, .int), (cJ, .long)] (ql_xw h ad cI cJ pad P) [.ref h, .ref (pad i1 100), .ref (pad i2 100), .int x3] z res :=
  ql_start_i (by decide) rfl (Nat.le_of_ble_eq_true rfl) (fun p e s m below meth c A ls C0 hl hP hD hS => w_X4_findRow_0 C0 N P z i1 i2 x3 gi1 gi2 hf s.heap [] ls hP hD hS (lv_sub (show lv_has ls 8 [(0, .ref h), (1, .ref (pad i1 100)), (2, .ref (pad i2 100)), (3, .int x3)] from hl) [0, 1, 2, 3] rfl))
