/-! ===== TestedLoopsModel.works(I)V ===== -/
abbrev rm_X11_works : Room := { frames := 0, cells := 0, slots := 0, locals := 0 }
theorem iw_X11_works_X11 : ∀ w ∈ wsX110, w ∈ wsX11_works := fun w h => List.mem_cons_of_mem _ (List.mem_append_right _ h)
theorem qv_X11_works : yX11_works.cls = RX11 ∧ yX11_works.cls ≠ "java/lang/invoke/MethodHandle" ∧ yX11_works.cls ≠ "java/lang/invoke/VarHandle" ∧ (parseMethodDescriptor yX11_works.desc).map (fun d => d.parameters.length) = some 1 := by decide +kernel
def f_X11_works_123 (N : Nat) (k0 : ql_Z → Int32 → Option (ql_Z)) (z : ql_Z) (x1 : Int32) (y0 : Int32) (y1 : Int32) : Option (ql_Z) := if ql_ib y1 310 = true then k0 ((ql_up (ql_up z.1 17 (upd (z.1 17) y1.toNatClampNeg y0)) 20 (fun _ => ((z.1 20 0) - 1))), z.2) x1 else none
def f_X11_works_0 (N : Nat) : Nat → ql_Z → Int32 → Option (ql_Z)
  | 0, _, _ => none
  | n + 1, z, x1 => if (z.1 20 0) ≤ 0 then some z else if ql_ib ((z.1 20 0) - 1) 310 = true then if ((z.1 18) ((z.1 20 0) - 1).toNatClampNeg) < x1 then some z else if ql_ib ((z.1 20 0) - 1) 310 = true then if ((z.1 18) ((z.1 20 0) - 1).toNatClampNeg) = 23 then some z else if ql_ib ((z.1 20 0) - 1) 310 = true then if ((z.1 18) ((z.1 20 0) - 1).toNatClampNeg) = 22 then some z else if ql_ib ((z.1 19 0) - 2) 310 = true then if ql_ib ((z.1 19 0) - 1) 310 = true then if ql_ib ((z.1 20 0) - 1) 310 = true then if ((z.1 18) ((z.1 20 0) - 1).toNatClampNeg) = 20 then f_X11_works_123 N (f_X11_works_0 N n) ((ql_up z.1 19 (fun _ => ((z.1 19 0) - 1))), z.2) x1 (((z.1 17) ((z.1 19 0) - 2).toNatClampNeg) ||| ((z.1 17) ((z.1 19 0) - 1).toNatClampNeg)) (((z.1 19 0) - 1) - 1) else f_X11_works_123 N (f_X11_works_0 N n) ((ql_up z.1 19 (fun _ => ((z.1 19 0) - 1))), z.2) x1 (((z.1 17) ((z.1 19 0) - 2).toNatClampNeg) &&& ((z.1 17) ((z.1 19 0) - 1).toNatClampNeg)) (((z.1 19 0) - 1) - 1) else none else none else none else none else none else none
def f_X11_works (N : Nat) (z : ql_Z) (x1 : Int32) : Option (ql_Z) := f_X11_works_0 N N z x1
set_option maxHeartbeats 4000000 in
set_option maxRecDepth 100000 in
theorem w_X11_works_123 {p : Program} {l : Launch} {e : Env} {s : State} {m : MethodId} {args : Array Value} {below : List Frame} {meth : Method} {c : Code} {dC : Nat → ClassId} {dI : Nat → Nat → Nat} {A : Nat → Prop} {h : Nat} {ad : Nat → Nat} {cI cZ cJ : ClassId} {res : ql_Z} (C0 : ql_C p s m args meth c cX11_works 4 none wsX11_works RX11 (dC, dI) [(cI, .int), (cZ, .boolean), (cJ, .long)] A) (N : Nat) (k0 : ql_Z → Int32 → Option (ql_Z)) (hk0 : ∀ (z : ql_Z) (x1 : Int32), k0 z x1 = some res → ∀ (H : Heap) (locs : List Loc) (ls : Array Slot), va_P (dC, dI) vwCl ((ql_mw h ad cI cZ cJ) z) H → va_D A ((ql_mw h ad cI cZ cJ) z) → va_S A s.heap H locs → lv_has ls 4 [(0, .ref h), (1, .int x1)] → W p l e rm_X11_works s m args below meth c H locs 0 0 (ql_Qv below (dC, dI) (ql_mw h ad cI cZ cJ) A args s res) (F0 m 0 ls [])) : ∀ (z : ql_Z) (x1 : Int32) (y0 : Int32) (y1 : Int32), f_X11_works_123 N k0 z x1 y0 y1 = some res → ∀ (H : Heap) (locs : List Loc) (ls : Array Slot), va_P (dC, dI) vwCl ((ql_mw h ad cI cZ cJ) z) H → va_D A ((ql_mw h ad cI cZ cJ) z) → va_S A s.heap H locs → lv_has ls 4 [(0, .ref h), (1, .int x1)] → W p l e rm_X11_works s m args below meth c H locs 0 0 (ql_Qv below (dC, dI) (ql_mw h ad cI cZ cJ) A args s res) (F0 m 123 ls [.int y0, .int y1, .ref (ad 17)]) := by
  have C0q := C0
  obtain ⟨hx, hb, hr, hml, hown, hts, hlocks, hK, hA⟩ := C0q
  have fl167 := hts (Cond.fieldLink RX11 167 "TestedLoopsModel" "waitMany" "I") (by decide +kernel)
  intro z x1 y0 y1 hf H locs ls hP hD hS hl
  unfold f_X11_works_123 at hf
  have g0 := ql_in (ql_gt hf)
  have hf := ql_gx hf
  refine va_iast (f := (z.1 17)) hx hb hK.1 hP hD hS 13 0 rfl rfl g0 dX11_works_123 (fun H locs hP hD hS => ?_)
  refine lv_aload_n hx hb dX11_works_124 rfl (lv_at hl 0 rfl) ?_
  refine lv_dup hx hb dX11_works_125 rfl ?_
  refine va_get (D := (dC, dI)) (ci := 11) (v := .int (z.1 20 0)) (C := RX11) (T := TX11) (N := 41) hx hb hts iw_X11_works_X11 hown hK.1 hP 0 rfl rfl 20 (by decide) fl167 (fun _ h9 => h9) rfl dX11_works_126 ?_
  refine lv_iconst (v := 1) hx hb dX11_works_129 (by decide) ?_
  refine lv_isub hx hb dX11_works_130 ?_
  refine va_put (D := (dC, dI)) (ci := 11) (v := .int ((z.1 20 0) - 1)) (ty := .int) (C := RX11) (T := TX11) (N := 41) hx hb hts iw_X11_works_X11 tyX11 tyX11_ok nmX11 hown hK.1 hP hD hS 0 rfl rfl 20 (by decide) fl167 (fun _ h9 => h9) rfl (by decide +kernel) rfl rfl (Nat.le_of_ble_eq_true rfl) dX11_works_131 (fun H locs hP hD hS => ?_)
  refine lv_goto (tgt := 0) hx hb dX11_works_134 (by decide) ?_
  exact hk0 _ _ hf _ _ _ hP hD hS (lv_sub hl [0, 1] rfl)
set_option maxHeartbeats 4000000 in
set_option maxRecDepth 100000 in
theorem w_X11_works_0 {p : Program} {l : Launch} {e : Env} {s : State} {m : MethodId} {args : Array Value} {below : List Frame} {meth : Method} {c : Code} {dC : Nat → ClassId} {dI : Nat → Nat → Nat} {A : Nat → Prop} {h : Nat} {ad : Nat → Nat} {cI cZ cJ : ClassId} {res : ql_Z} (C0 : ql_C p s m args meth c cX11_works 4 none wsX11_works RX11 (dC, dI) [(cI, .int), (cZ, .boolean), (cJ, .long)] A) (N : Nat) : ∀ (n : Nat), ∀ (z : ql_Z) (x1 : Int32), f_X11_works_0 N n z x1 = some res → ∀ (H : Heap) (locs : List Loc) (ls : Array Slot), va_P (dC, dI) vwCl ((ql_mw h ad cI cZ cJ) z) H → va_D A ((ql_mw h ad cI cZ cJ) z) → va_S A s.heap H locs → lv_has ls 4 [(0, .ref h), (1, .int x1)] → W p l e rm_X11_works s m args below meth c H locs 0 0 (ql_Qv below (dC, dI) (ql_mw h ad cI cZ cJ) A args s res) (F0 m 0 ls []) := by
  have C0q := C0
  obtain ⟨hx, hb, hr, hml, hown, hts, hlocks, hK, hA⟩ := C0q
  have fl167 := hts (Cond.fieldLink RX11 167 "TestedLoopsModel" "waitMany" "I") (by decide +kernel)
  have fl49 := hts (Cond.fieldLink RX11 49 "TestedLoopsModel" "waits" "[I") (by decide +kernel)
  have fl46 := hts (Cond.fieldLink RX11 46 "TestedLoopsModel" "vals" "[I") (by decide +kernel)
  have fl170 := hts (Cond.fieldLink RX11 170 "TestedLoopsModel" "valMany" "I") (by decide +kernel)
  intro n
  induction n with
  | zero =>
    intro z x1 hf
    rw [f_X11_works_0] at hf
    cases hf
  | succ n ih =>
    intro z x1 hf H locs ls hP hD hS hl
    rw [f_X11_works_0] at hf
    refine lv_aload_n hx hb dX11_works_0 rfl (lv_at hl 0 rfl) ?_
    refine va_get (D := (dC, dI)) (ci := 11) (v := .int (z.1 20 0)) (C := RX11) (T := TX11) (N := 41) hx hb hts iw_X11_works_X11 hown hK.1 hP 0 rfl rfl 20 (by decide) fl167 (fun _ h9 => h9) rfl dX11_works_1 ?_
    refine lv_if_le (tgt := 137) hx hb dX11_works_4 (by decide) (fun c1 => ?_) (fun c1 => ?_)
    · have hf := (if_pos c1).symm.trans hf
      exact ql_vret C0 hf hP hD hS dX11_works_137
    · have hf := (if_neg c1).symm.trans hf
      refine lv_aload_n hx hb dX11_works_7 rfl (lv_at hl 0 rfl) ?_
      refine va_get (D := (dC, dI)) (ci := 11) (v := .ref (ad 18)) (C := RX11) (T := TX11) (N := 41) hx hb hts iw_X11_works_X11 hown hK.1 hP 0 rfl rfl 18 (by decide) fl49 (fun _ h9 => h9) rfl dX11_works_8 ?_
      refine lv_aload_n hx hb dX11_works_11 rfl (lv_at hl 0 rfl) ?_
      refine va_get (D := (dC, dI)) (ci := 11) (v := .int (z.1 20 0)) (C := RX11) (T := TX11) (N := 41) hx hb hts iw_X11_works_X11 hown hK.1 hP 0 rfl rfl 20 (by decide) fl167 (fun _ h9 => h9) rfl dX11_works_12 ?_
      refine lv_iconst (v := 1) hx hb dX11_works_15 (by decide) ?_
      refine lv_isub hx hb dX11_works_16 ?_
      have g0 := ql_in (ql_gt hf)
      have hf := ql_gx hf
      refine va_iald (f := (z.1 18)) hx hb hK.1 hP 14 0 rfl rfl g0 dX11_works_17 ?_
      refine lv_iload_n hx hb dX11_works_18 rfl (lv_at hl 1 rfl) ?_
      refine lv_icmp_lt (tgt := 137) hx hb dX11_works_19 (by decide) (fun c2 => ?_) (fun c2 => ?_)
      · have hf := (if_pos c2).symm.trans hf
        exact ql_vret C0 hf hP hD hS dX11_works_137
      · have hf := (if_neg c2).symm.trans hf
        refine lv_aload_n hx hb dX11_works_22 rfl (lv_at hl 0 rfl) ?_
        refine va_get (D := (dC, dI)) (ci := 11) (v := .ref (ad 18)) (C := RX11) (T := TX11) (N := 41) hx hb hts iw_X11_works_X11 hown hK.1 hP 0 rfl rfl 18 (by decide) fl49 (fun _ h9 => h9) rfl dX11_works_23 ?_
        refine lv_aload_n hx hb dX11_works_26 rfl (lv_at hl 0 rfl) ?_
        refine va_get (D := (dC, dI)) (ci := 11) (v := .int (z.1 20 0)) (C := RX11) (T := TX11) (N := 41) hx hb hts iw_X11_works_X11 hown hK.1 hP 0 rfl rfl 20 (by decide) fl167 (fun _ h9 => h9) rfl dX11_works_27 ?_
        refine lv_iconst (v := 1) hx hb dX11_works_30 (by decide) ?_
        refine lv_isub hx hb dX11_works_31 ?_
        have g0 := ql_in (ql_gt hf)
        have hf := ql_gx hf
        refine va_iald (f := (z.1 18)) hx hb hK.1 hP 14 0 rfl rfl g0 dX11_works_32 ?_
        refine lv_bipush (v := 23) hx hb dX11_works_33 (by decide) ?_
        refine lv_icmp_eq (tgt := 137) hx hb dX11_works_35 (by decide) (fun c3 => ?_) (fun c3 => ?_)
        · have hf := (if_pos c3).symm.trans hf
          exact ql_vret C0 hf hP hD hS dX11_works_137
        · have hf := (if_neg c3).symm.trans hf
          refine lv_aload_n hx hb dX11_works_38 rfl (lv_at hl 0 rfl) ?_
          refine va_get (D := (dC, dI)) (ci := 11) (v := .ref (ad 18)) (C := RX11) (T := TX11) (N := 41) hx hb hts iw_X11_works_X11 hown hK.1 hP 0 rfl rfl 18 (by decide) fl49 (fun _ h9 => h9) rfl dX11_works_39 ?_
          refine lv_aload_n hx hb dX11_works_42 rfl (lv_at hl 0 rfl) ?_
          refine va_get (D := (dC, dI)) (ci := 11) (v := .int (z.1 20 0)) (C := RX11) (T := TX11) (N := 41) hx hb hts iw_X11_works_X11 hown hK.1 hP 0 rfl rfl 20 (by decide) fl167 (fun _ h9 => h9) rfl dX11_works_43 ?_
          refine lv_iconst (v := 1) hx hb dX11_works_46 (by decide) ?_
          refine lv_isub hx hb dX11_works_47 ?_
          have g0 := ql_in (ql_gt hf)
          have hf := ql_gx hf
          refine va_iald (f := (z.1 18)) hx hb hK.1 hP 14 0 rfl rfl g0 dX11_works_48 ?_
          refine lv_bipush (v := 22) hx hb dX11_works_49 (by decide) ?_
          refine lv_icmp_eq (tgt := 137) hx hb dX11_works_51 (by decide) (fun c4 => ?_) (fun c4 => ?_)
          · have hf := (if_pos c4).symm.trans hf
            exact ql_vret C0 hf hP hD hS dX11_works_137
          · have hf := (if_neg c4).symm.trans hf
            refine lv_aload_n hx hb dX11_works_54 rfl (lv_at hl 0 rfl) ?_
            refine va_get (D := (dC, dI)) (ci := 11) (v := .ref (ad 17)) (C := RX11) (T := TX11) (N := 41) hx hb hts iw_X11_works_X11 hown hK.1 hP 0 rfl rfl 17 (by decide) fl46 (fun _ h9 => h9) rfl dX11_works_55 ?_
            refine lv_aload_n hx hb dX11_works_58 rfl (lv_at hl 0 rfl) ?_
            refine va_get (D := (dC, dI)) (ci := 11) (v := .int (z.1 19 0)) (C := RX11) (T := TX11) (N := 41) hx hb hts iw_X11_works_X11 hown hK.1 hP 0 rfl rfl 19 (by decide) fl170 (fun _ h9 => h9) rfl dX11_works_59 ?_
            refine lv_iconst (v := 2) hx hb dX11_works_62 (by decide) ?_
            refine lv_isub hx hb dX11_works_63 ?_
            have g0 := ql_in (ql_gt hf)
            have hf := ql_gx hf
            refine va_iald (f := (z.1 17)) hx hb hK.1 hP 13 0 rfl rfl g0 dX11_works_64 ?_
            refine lv_istore_n (lv' := [(2, .int ((z.1 17) ((z.1 19 0) - 2).toNatClampNeg)), (0, .ref h), (1, .int x1)]) hx hb dX11_works_65 rfl hl (by decide) rfl (fun ls hl => ?_)
            refine lv_aload_n hx hb dX11_works_66 rfl (lv_at hl 1 rfl) ?_
            refine va_get (D := (dC, dI)) (ci := 11) (v := .ref (ad 17)) (C := RX11) (T := TX11) (N := 41) hx hb hts iw_X11_works_X11 hown hK.1 hP 0 rfl rfl 17 (by decide) fl46 (fun _ h9 => h9) rfl dX11_works_67 ?_
            refine lv_aload_n hx hb dX11_works_70 rfl (lv_at hl 1 rfl) ?_
            refine va_get (D := (dC, dI)) (ci := 11) (v := .int (z.1 19 0)) (C := RX11) (T := TX11) (N := 41) hx hb hts iw_X11_works_X11 hown hK.1 hP 0 rfl rfl 19 (by decide) fl170 (fun _ h9 => h9) rfl dX11_works_71 ?_
            refine lv_iconst (v := 1) hx hb dX11_works_74 (by decide) ?_
            refine lv_isub hx hb dX11_works_75 ?_
            have g0 := ql_in (ql_gt hf)
            have hf := ql_gx hf
            refine va_iald (f := (z.1 17)) hx hb hK.1 hP 13 0 rfl rfl g0 dX11_works_76 ?_
            refine lv_istore_n (lv' := [(3, .int ((z.1 17) ((z.1 19 0) - 1).toNatClampNeg)), (2, .int ((z.1 17) ((z.1 19 0) - 2).toNatClampNeg)), (0, .ref h), (1, .int x1)]) hx hb dX11_works_77 rfl hl (by decide) rfl (fun ls hl => ?_)
            refine lv_aload_n hx hb dX11_works_78 rfl (lv_at hl 2 rfl) ?_
            refine lv_dup hx hb dX11_works_79 rfl ?_
            refine va_get (D := (dC, dI)) (ci := 11) (v := .int (z.1 19 0)) (C := RX11) (T := TX11) (N := 41) hx hb hts iw_X11_works_X11 hown hK.1 hP 0 rfl rfl 19 (by decide) fl170 (fun _ h9 => h9) rfl dX11_works_80 ?_
            refine lv_iconst (v := 1) hx hb dX11_works_83 (by decide) ?_
            refine lv_isub hx hb dX11_works_84 ?_
            refine va_put (D := (dC, dI)) (ci := 11) (v := .int ((z.1 19 0) - 1)) (ty := .int) (C := RX11) (T := TX11) (N := 41) hx hb hts iw_X11_works_X11 tyX11 tyX11_ok nmX11 hown hK.1 hP hD hS 0 rfl rfl 19 (by decide) fl170 (fun _ h9 => h9) rfl (by decide +kernel) rfl rfl (Nat.le_of_ble_eq_true rfl) dX11_works_85 (fun H locs hP hD hS => ?_)
            refine lv_aload_n hx hb dX11_works_88 rfl (lv_at hl 2 rfl) ?_
            refine va_get (D := (dC, dI)) (ci := 11) (v := .ref (ad 17)) (C := RX11) (T := TX11) (N := 41) hx hb hts iw_X11_works_X11 hown hK.1 hP 0 rfl rfl 17 (by decide) fl46 (fun _ h9 => h9) rfl dX11_works_89 ?_
            refine lv_aload_n hx hb dX11_works_92 rfl (lv_at hl 2 rfl) ?_
            refine va_get (D := (dC, dI)) (ci := 11) (v := .int ((z.1 19 0) - 1)) (C := RX11) (T := TX11) (N := 41) hx hb hts iw_X11_works_X11 hown hK.1 hP 0 rfl rfl 19 (by decide) fl170 (fun _ h9 => h9) rfl dX11_works_93 ?_
            refine lv_iconst (v := 1) hx hb dX11_works_96 (by decide) ?_
            refine lv_isub hx hb dX11_works_97 ?_
            refine lv_aload_n hx hb dX11_works_98 rfl (lv_at hl 2 rfl) ?_
            refine va_get (D := (dC, dI)) (ci := 11) (v := .ref (ad 18)) (C := RX11) (T := TX11) (N := 41) hx hb hts iw_X11_works_X11 hown hK.1 hP 0 rfl rfl 18 (by decide) fl49 (fun _ h9 => h9) rfl dX11_works_99 ?_
            refine lv_aload_n hx hb dX11_works_102 rfl (lv_at hl 2 rfl) ?_
            refine va_get (D := (dC, dI)) (ci := 11) (v := .int (z.1 20 0)) (C := RX11) (T := TX11) (N := 41) hx hb hts iw_X11_works_X11 hown hK.1 hP 0 rfl rfl 20 (by decide) fl167 (fun _ h9 => h9) rfl dX11_works_103 ?_
            refine lv_iconst (v := 1) hx hb dX11_works_106 (by decide) ?_
            refine lv_isub hx hb dX11_works_107 ?_
            have g0 := ql_in (ql_gt hf)
            have hf := ql_gx hf
            refine va_iald (f := (z.1 18)) hx hb hK.1 hP 14 0 rfl rfl g0 dX11_works_108 ?_
            refine lv_bipush (v := 20) hx hb dX11_works_109 (by decide) ?_
            refine lv_icmp_ne (tgt := 120) hx hb dX11_works_111 (by decide) (fun c5 => ?_) (fun c5 => ?_)
            · have hf := (if_neg c5).symm.trans hf
              refine lv_iload_n hx hb dX11_works_120 rfl (lv_at hl 1 rfl) ?_
              refine lv_iload_n hx hb dX11_works_121 rfl (lv_at hl 0 rfl) ?_
              refine lv_iand hx hb dX11_works_122 ?_
              exact w_X11_works_123 C0 N (f_X11_works_0 N n) ih _ _ _ _ hf _ _ _ hP hD hS (lv_sub hl [2, 3] rfl)
            · have hf := (if_pos c5).symm.trans hf
              refine lv_iload_n hx hb dX11_works_114 rfl (lv_at hl 1 rfl) ?_
              refine lv_iload_n hx hb dX11_works_115 rfl (lv_at hl 0 rfl) ?_
              refine lv_ior hx hb dX11_works_116 ?_
              refine lv_goto (tgt := 123) hx hb dX11_works_117 (by decide) ?_
              exact w_X11_works_123 C0 N (f_X11_works_0 N n) ih _ _ _ _ hf _ _ _ hP hD hS (lv_sub hl [2, 3] rfl)
set_option maxRecDepth 100000 in
theorem c_X11_works (l : Launch) (dC : Nat → ClassId) (dI : Nat → Nat → Nat) (h : Nat) (ad : Nat → Nat) (cI cZ cJ : ClassId) (N : Nat) (z : ql_Z) (x1 : Int32) (res : ql_Z) (hf : f_X11_works N z x1 = some res) : ql_Mv l yX11_works wsX11_works rm_X11_works (dC, dI) [(cI, .int), (cZ, .boolean), (cJ, .long)] (ql_mw h ad cI cZ cJ) [.ref h, .int x1] z res :=
  ql_start_v (by decide) rfl (Nat.le_of_ble_eq_true rfl) (fun p e s m below meth c A ls C0 hl hP hD hS => w_X11_works_0 C0 N N z x1 hf s.heap [] ls hP hD hS (lv_sub (show lv_has ls 4 [(0, .ref h), (1, .int x1)] from hl) [0, 1] rfl))
/-! ===== TestedLoopsModel.turns()V ===== -/
abbrev rm_X11_turns : Room := { frames := 0, cells := 0, slots := 0, locals := 0 }
theorem iw_X11_turns_X11 : ∀ w ∈ wsX110, w ∈ wsX11_turns := fun w h => List.mem_cons_of_mem _ (List.mem_append_right _ h)
theorem qv_X11_turns : yX11_turns.cls = RX11 ∧ yX11_turns.cls ≠ "java/lang/invoke/MethodHandle" ∧ yX11_turns.cls ≠ "java/lang/invoke/VarHandle" ∧ (parseMethodDescriptor yX11_turns.desc).map (fun d => d.parameters.length) = some 0 := by decide +kernel
def f_X11_turns_0 (N : Nat) : Nat → ql_Z → Option (ql_Z)
  | 0, _ => none
  | n + 1, z => if (z.1 20 0) ≤ 0 then some z else if ql_ib ((z.1 20 0) - 1) 310 = true then if ((z.1 18) ((z.1 20 0) - 1).toNatClampNeg) = 22 then if ql_ib ((z.1 19 0) - 1) 310 = true then if ql_ib ((z.1 19 0) - 1) 310 = true then f_X11_turns_0 N n ((ql_up (ql_up (ql_up z.1 17 (upd (z.1 17) (((z.1 19 0) - 1).toNatClampNeg) (((z.1 17) ((z.1 19 0) - 1).toNatClampNeg) ^^^ 15))) 20 (fun _ => ((z.1 20 0) - 1))) 21 (fun _ => ((z.1 21 0) - 1))), z.2) else none else none else some z else none
def f_X11_turns (N : Nat) (z : ql_Z) : Option (ql_Z) := f_X11_turns_0 N N z
set_option maxHeartbeats 4000000 in
set_option maxRecDepth 100000 in
theorem w_X11_turns_0 {p : Program} {l : Launch} {e : Env} {s : State} {m : MethodId} {args : Array Value} {below : List Frame} {meth : Method} {c : Code} {dC : Nat → ClassId} {dI : Nat → Nat → Nat} {A : Nat → Prop} {h : Nat} {ad : Nat → Nat} {cI cZ cJ : ClassId} {res : ql_Z} (C0 : ql_C p s m args meth c cX11_turns 1 none wsX11_turns RX11 (dC, dI) [(cI, .int), (cZ, .boolean), (cJ, .long)] A) (N : Nat) : ∀ (n : Nat), ∀ (z : ql_Z), f_X11_turns_0 N n z = some res → ∀ (H : Heap) (locs : List Loc) (ls : Array Slot), va_P (dC, dI) vwCl ((ql_mw h ad cI cZ cJ) z) H → va_D A ((ql_mw h ad cI cZ cJ) z) → va_S A s.heap H locs → lv_has ls 1 [(0, .ref h)] → W p l e rm_X11_turns s m args below meth c H locs 0 0 (ql_Qv below (dC, dI) (ql_mw h ad cI cZ cJ) A args s res) (F0 m 0 ls []) := by
  have C0q := C0
  obtain ⟨hx, hb, hr, hml, hown, hts, hlocks, hK, hA⟩ := C0q
  have fl167 := hts (Cond.fieldLink RX11 167 "TestedLoopsModel" "waitMany" "I") (by decide +kernel)
  have fl49 := hts (Cond.fieldLink RX11 49 "TestedLoopsModel" "waits" "[I") (by decide +kernel)
  have fl46 := hts (Cond.fieldLink RX11 46 "TestedLoopsModel" "vals" "[I") (by decide +kernel)
  have fl170 := hts (Cond.fieldLink RX11 170 "TestedLoopsModel" "valMany" "I") (by decide +kernel)
  have fl173 := hts (Cond.fieldLink RX11 173 "TestedLoopsModel" "open" "I") (by decide +kernel)
  intro n
  induction n with
  | zero =>
    intro z hf
    rw [f_X11_turns_0] at hf
    cases hf
  | succ n ih =>
    intro z hf H locs ls hP hD hS hl
    rw [f_X11_turns_0] at hf
    refine lv_aload_n hx hb dX11_turns_0 rfl (lv_at hl 0 rfl) ?_
    refine va_get (D := (dC, dI)) (ci := 11) (v := .int (z.1 20 0)) (C := RX11) (T := TX11) (N := 41) hx hb hts iw_X11_turns_X11 hown hK.1 hP 0 rfl rfl 20 (by decide) fl167 (fun _ h9 => h9) rfl dX11_turns_1 ?_
    refine lv_if_le (tgt := 62) hx hb dX11_turns_4 (by decide) (fun c1 => ?_) (fun c1 => ?_)
    · have hf := (if_pos c1).symm.trans hf
      exact ql_vret C0 hf hP hD hS dX11_turns_62
    · have hf := (if_neg c1).symm.trans hf
      refine lv_aload_n hx hb dX11_turns_7 rfl (lv_at hl 0 rfl) ?_
      refine va_get (D := (dC, dI)) (ci := 11) (v := .ref (ad 18)) (C := RX11) (T := TX11) (N := 41) hx hb hts iw_X11_turns_X11 hown hK.1 hP 0 rfl rfl 18 (by decide) fl49 (fun _ h9 => h9) rfl dX11_turns_8 ?_
      refine lv_aload_n hx hb dX11_turns_11 rfl (lv_at hl 0 rfl) ?_
      refine va_get (D := (dC, dI)) (ci := 11) (v := .int (z.1 20 0)) (C := RX11) (T := TX11) (N := 41) hx hb hts iw_X11_turns_X11 hown hK.1 hP 0 rfl rfl 20 (by decide) fl167 (fun _ h9 => h9) rfl dX11_turns_12 ?_
      refine lv_iconst (v := 1) hx hb dX11_turns_15 (by decide) ?_
      refine lv_isub hx hb dX11_turns_16 ?_
      have g0 := ql_in (ql_gt hf)
      have hf := ql_gx hf
      refine va_iald (f := (z.1 18)) hx hb hK.1 hP 14 0 rfl rfl g0 dX11_turns_17 ?_
      refine lv_bipush (v := 22) hx hb dX11_turns_18 (by decide) ?_
      refine lv_icmp_ne (tgt := 62) hx hb dX11_turns_20 (by decide) (fun c2 => ?_) (fun c2 => ?_)
      · have hf := (if_neg c2).symm.trans hf
        exact ql_vret C0 hf hP hD hS dX11_turns_62
      · have hf := (if_pos c2).symm.trans hf
        refine lv_aload_n hx hb dX11_turns_23 rfl (lv_at hl 0 rfl) ?_
        refine va_get (D := (dC, dI)) (ci := 11) (v := .ref (ad 17)) (C := RX11) (T := TX11) (N := 41) hx hb hts iw_X11_turns_X11 hown hK.1 hP 0 rfl rfl 17 (by decide) fl46 (fun _ h9 => h9) rfl dX11_turns_24 ?_
        refine lv_aload_n hx hb dX11_turns_27 rfl (lv_at hl 0 rfl) ?_
        refine va_get (D := (dC, dI)) (ci := 11) (v := .int (z.1 19 0)) (C := RX11) (T := TX11) (N := 41) hx hb hts iw_X11_turns_X11 hown hK.1 hP 0 rfl rfl 19 (by decide) fl170 (fun _ h9 => h9) rfl dX11_turns_28 ?_
        refine lv_iconst (v := 1) hx hb dX11_turns_31 (by decide) ?_
        refine lv_isub hx hb dX11_turns_32 ?_
        refine lv_dup2_11 hx hb dX11_turns_33 rfl rfl ?_
        have g0 := ql_in (ql_gt hf)
        have hf := ql_gx hf
        refine va_iald (f := (z.1 17)) hx hb hK.1 hP 13 0 rfl rfl g0 dX11_turns_34 ?_
        refine lv_bipush (v := 15) hx hb dX11_turns_35 (by decide) ?_
        refine lv_ixor hx hb dX11_turns_37 ?_
        have g0 := ql_in (ql_gt hf)
        have hf := ql_gx hf
        refine va_iast (f := (z.1 17)) hx hb hK.1 hP hD hS 13 0 rfl rfl g0 dX11_turns_38 (fun H locs hP hD hS => ?_)
        refine lv_aload_n hx hb dX11_turns_39 rfl (lv_at hl 0 rfl) ?_
        refine lv_dup hx hb dX11_turns_40 rfl ?_
        refine va_get (D := (dC, dI)) (ci := 11) (v := .int (z.1 20 0)) (C := RX11) (T := TX11) (N := 41) hx hb hts iw_X11_turns_X11 hown hK.1 hP 0 rfl rfl 20 (by decide) fl167 (fun _ h9 => h9) rfl dX11_turns_41 ?_
        refine lv_iconst (v := 1) hx hb dX11_turns_44 (by decide) ?_
        refine lv_isub hx hb dX11_turns_45 ?_
        refine va_put (D := (dC, dI)) (ci := 11) (v := .int ((z.1 20 0) - 1)) (ty := .int) (C := RX11) (T := TX11) (N := 41) hx hb hts iw_X11_turns_X11 tyX11 tyX11_ok nmX11 hown hK.1 hP hD hS 0 rfl rfl 20 (by decide) fl167 (fun _ h9 => h9) rfl (by decide +kernel) rfl rfl (Nat.le_of_ble_eq_true rfl) dX11_turns_46 (fun H locs hP hD hS => ?_)
        refine lv_aload_n hx hb dX11_turns_49 rfl (lv_at hl 0 rfl) ?_
        refine lv_dup hx hb dX11_turns_50 rfl ?_
        refine va_get (D := (dC, dI)) (ci := 11) (v := .int (z.1 21 0)) (C := RX11) (T := TX11) (N := 41) hx hb hts iw_X11_turns_X11 hown hK.1 hP 0 rfl rfl 21 (by decide) fl173 (fun _ h9 => h9) rfl dX11_turns_51 ?_
        refine lv_iconst (v := 1) hx hb dX11_turns_54 (by decide) ?_
        refine lv_isub hx hb dX11_turns_55 ?_
        refine va_put (D := (dC, dI)) (ci := 11) (v := .int ((z.1 21 0) - 1)) (ty := .int) (C := RX11) (T := TX11) (N := 41) hx hb hts iw_X11_turns_X11 tyX11 tyX11_ok nmX11 hown hK.1 hP hD hS 0 rfl rfl 21 (by decide) fl173 (fun _ h9 => h9) rfl (by decide +kernel) rfl rfl (Nat.le_of_ble_eq_true rfl) dX11_turns_56 (fun H locs hP hD hS => ?_)
        refine lv_goto (tgt := 0) hx hb dX11_turns_59 (by decide) ?_
        exact ih _ hf _ _ _ hP hD hS (lv_sub hl [0] rfl)
set_option maxRecDepth 100000 in
theorem c_X11_turns (l : Launch) (dC : Nat → ClassId) (dI : Nat → Nat → Nat) (h : Nat) (ad : Nat → Nat) (cI cZ cJ : ClassId) (N : Nat) (z : ql_Z) (res : ql_Z) (hf : f_X11_turns N z = some res) : ql_Mv l yX11_turns wsX11_turns rm_X11_turns (dC, dI) [(cI, .int), (cZ, .boolean), (cJ, .long)] (ql_mw h ad cI cZ cJ) [.ref h] z res :=
  ql_start_v (by decide) rfl (Nat.le_of_ble_eq_true rfl) (fun p e s m below meth c A ls C0 hl hP hD hS => w_X11_turns_0 C0 N N z hf s.heap [] ls hP hD hS (lv_sub (show lv_has ls 1 [(0, .ref h)] from hl) [0] rfl))
/-! ===== TestedLoopsModel.isInner()Z ===== -/
abbrev rm_X11_isInner : Room := { frames := 0, cells := 0, slots := 0, locals := 0 }
theorem iw_X11_isInner_X11 : ∀ w ∈ wsX110, w ∈ wsX11_isInner := fun w h => List.mem_cons_of_mem _ (List.mem_append_right _ h)
theorem qv_X11_isInner : yX11_isInner.cls = RX11 ∧ yX11_isInner.cls ≠ "java/lang/invoke/MethodHandle" ∧ yX11_isInner.cls ≠ "java/lang/invoke/VarHandle" ∧ (parseMethodDescriptor yX11_isInner.desc).map (fun d => d.parameters.length) = some 0 := by decide +kernel
def f_X11_isInner_32 (N : Nat) (z : ql_Z) (k4 : Int32 → Int32 → Option (Int32)) (x2 : Int32) (y0 : Int32) : Option (Int32) := k4 y0 (x2 + 1)
def f_X11_isInner_27 (N : Nat) (z : ql_Z) (k4 : Int32 → Int32 → Option (Int32)) (x2 : Int32) : Option (Int32) := f_X11_isInner_32 N z k4 x2 1
def f_X11_isInner_4 (N : Nat) (z : ql_Z) : Nat → Int32 → Int32 → Option (Int32)
  | 0, _, _ => none
  | n + 1, x1, x2 => if (z.1 20 0) ≤ x2 then if ql_bz x1 = true then some x1 else none else if x1 = 0 then if ql_ib x2 310 = true then if ((z.1 18) x2.toNatClampNeg) = 23 then f_X11_isInner_27 N z (f_X11_isInner_4 N z n) x2 else f_X11_isInner_32 N z (f_X11_isInner_4 N z n) x2 0 else none else f_X11_isInner_27 N z (f_X11_isInner_4 N z n) x2
def f_X11_isInner_0 (N : Nat) (z : ql_Z) : Option (Int32) := f_X11_isInner_4 N z N 0 0
def f_X11_isInner (N : Nat) (z : ql_Z) : Option (Int32) := f_X11_isInner_0 N z
set_option maxHeartbeats 4000000 in
set_option maxRecDepth 100000 in
theorem w_X11_isInner_32 {p : Program} {l : Launch} {e : Env} {s : State} {m : MethodId} {args : Array Value} {below : List Frame} {meth : Method} {c : Code} {dC : Nat → ClassId} {dI : Nat → Nat → Nat} {A : Nat → Prop} {h : Nat} {ad : Nat → Nat} {cI cZ cJ : ClassId} {res : Int32} (C0 : ql_C p s m args meth c cX11_isInner 3 (some .boolean) wsX11_isInner RX11 (dC, dI) [(cI, .int), (cZ, .boolean), (cJ, .long)] A) (N : Nat) (z : ql_Z) (k4 : Int32 → Int32 → Option (Int32)) (hk4 : ∀ (x1 : Int32) (x2 : Int32), k4 x1 x2 = some res → ∀ (H : Heap) (locs : List Loc) (ls : Array Slot), va_P (dC, dI) vwCl ((ql_mw h ad cI cZ cJ) z) H → va_S A s.heap H locs → lv_has ls 3 [(0, .ref h), (1, .int x1), (2, .int x2)] → W p l e rm_X11_isInner s m args below meth c H locs 0 0 (ql_Qri below A args s res) (F0 m 4 ls [])) : ∀ (x2 : Int32) (y0 : Int32), f_X11_isInner_32 N z k4 x2 y0 = some res → ∀ (H : Heap) (locs : List Loc) (ls : Array Slot), va_P (dC, dI) vwCl ((ql_mw h ad cI cZ cJ) z) H → va_S A s.heap H locs → lv_has ls 3 [(0, .ref h), (2, .int x2)] → W p l e rm_X11_isInner s m args below meth c H locs 0 0 (ql_Qri below A args s res) (F0 m 32 ls [.int y0]) := by
  have C0q := C0
  obtain ⟨hx, hb, hr, hml, hown, hts, hlocks, hK, hA⟩ := C0q
  intro x2 y0 hf H locs ls hP hS hl
  unfold f_X11_isInner_32 at hf
  refine lv_istore_n (lv' := [(1, .int y0), (0, .ref h), (2, .int x2)]) hx hb dX11_isInner_32 rfl hl (by decide) rfl (fun ls hl => ?_)
  refine lv_iinc (v := (x2 + 1)) (lv' := [(2, .int (x2 + 1)), (1, .int y0), (0, .ref h)]) hx hb dX11_isInner_33 hl (k := 2) rfl rfl (by decide) rfl (fun ls hl => ?_)
  refine lv_goto (tgt := 4) hx hb dX11_isInner_36 (by decide) ?_
  exact hk4 _ _ hf _ _ _ hP hS (lv_sub hl [2, 1, 0] rfl)
set_option maxHeartbeats 4000000 in
set_option maxRecDepth 100000 in
theorem w_X11_isInner_27 {p : Program} {l : Launch} {e : Env} {s : State} {m : MethodId} {args : Array Value} {below : List Frame} {meth : Method} {c : Code} {dC : Nat → ClassId} {dI : Nat → Nat → Nat} {A : Nat → Prop} {h : Nat} {ad : Nat → Nat} {cI cZ cJ : ClassId} {res : Int32} (C0 : ql_C p s m args meth c cX11_isInner 3 (some .boolean) wsX11_isInner RX11 (dC, dI) [(cI, .int), (cZ, .boolean), (cJ, .long)] A) (N : Nat) (z : ql_Z) (k4 : Int32 → Int32 → Option (Int32)) (hk4 : ∀ (x1 : Int32) (x2 : Int32), k4 x1 x2 = some res → ∀ (H : Heap) (locs : List Loc) (ls : Array Slot), va_P (dC, dI) vwCl ((ql_mw h ad cI cZ cJ) z) H → va_S A s.heap H locs → lv_has ls 3 [(0, .ref h), (1, .int x1), (2, .int x2)] → W p l e rm_X11_isInner s m args below meth c H locs 0 0 (ql_Qri below A args s res) (F0 m 4 ls [])) : ∀ (x2 : Int32), f_X11_isInner_27 N z k4 x2 = some res → ∀ (H : Heap) (locs : List Loc) (ls : Array Slot), va_P (dC, dI) vwCl ((ql_mw h ad cI cZ cJ) z) H → va_S A s.heap H locs → lv_has ls 3 [(0, .ref h), (2, .int x2)] → W p l e rm_X11_isInner s m args below meth c H locs 0 0 (ql_Qri below A args s res) (F0 m 27 ls []) := by
  have C0q := C0
  obtain ⟨hx, hb, hr, hml, hown, hts, hlocks, hK, hA⟩ := C0q
  intro x2 hf H locs ls hP hS hl
  unfold f_X11_isInner_27 at hf
  refine lv_iconst (v := 1) hx hb dX11_isInner_27 (by decide) ?_
  refine lv_goto (tgt := 32) hx hb dX11_isInner_28 (by decide) ?_
  exact w_X11_isInner_32 C0 N z k4 hk4 _ _ hf _ _ _ hP hS (lv_sub hl [0, 1] rfl)
set_option maxHeartbeats 4000000 in
set_option maxRecDepth 100000 in
theorem w_X11_isInner_4 {p : Program} {l : Launch} {e : Env} {s : State} {m : MethodId} {args : Array Value} {below : List Frame} {meth : Method} {c : Code} {dC : Nat → ClassId} {dI : Nat → Nat → Nat} {A : Nat → Prop} {h : Nat} {ad : Nat → Nat} {cI cZ cJ : ClassId} {res : Int32} (C0 : ql_C p s m args meth c cX11_isInner 3 (some .boolean) wsX11_isInner RX11 (dC, dI) [(cI, .int), (cZ, .boolean), (cJ, .long)] A) (N : Nat) (z : ql_Z) : ∀ (n : Nat), ∀ (x1 : Int32) (x2 : Int32), f_X11_isInner_4 N z n x1 x2 = some res → ∀ (H : Heap) (locs : List Loc) (ls : Array Slot), va_P (dC, dI) vwCl ((ql_mw h ad cI cZ cJ) z) H → va_S A s.heap H locs → lv_has ls 3 [(0, .ref h), (1, .int x1), (2, .int x2)] → W p l e rm_X11_isInner s m args below meth c H locs 0 0 (ql_Qri below A args s res) (F0 m 4 ls []) := by
  have C0q := C0
  obtain ⟨hx, hb, hr, hml, hown, hts, hlocks, hK, hA⟩ := C0q
  have fl167 := hts (Cond.fieldLink RX11 167 "TestedLoopsModel" "waitMany" "I") (by decide +kernel)
  have fl49 := hts (Cond.fieldLink RX11 49 "TestedLoopsModel" "waits" "[I") (by decide +kernel)
  intro n
  induction n with
  | zero =>
    intro x1 x2 hf
    rw [f_X11_isInner_4] at hf
    cases hf
  | succ n ih =>
    intro x1 x2 hf H locs ls hP hS hl
    rw [f_X11_isInner_4] at hf
    refine lv_iload_n hx hb dX11_isInner_4 rfl (lv_at hl 2 rfl) ?_
    refine lv_aload_n hx hb dX11_isInner_5 rfl (lv_at hl 0 rfl) ?_
    refine va_get (D := (dC, dI)) (ci := 11) (v := .int (z.1 20 0)) (C := RX11) (T := TX11) (N := 41) hx hb hts iw_X11_isInner_X11 hown hK.1 hP 0 rfl rfl 20 (by decide) fl167 (fun _ h9 => h9) rfl dX11_isInner_6 ?_
    refine lv_icmp_ge (tgt := 39) hx hb dX11_isInner_9 (by decide) (fun c1 => ?_) (fun c1 => ?_)
    · have hf := (if_pos c1).symm.trans hf
      refine lv_iload_n hx hb dX11_isInner_39 rfl (lv_at hl 1 rfl) ?_
      exact ql_rzret C0 (ql_bzo (ql_gt hf)) (ql_gx hf) hS dX11_isInner_40
    · have hf := (if_neg c1).symm.trans hf
      refine lv_iload_n hx hb dX11_isInner_12 rfl (lv_at hl 1 rfl) ?_
      refine lv_if_ne (tgt := 27) hx hb dX11_isInner_13 (by decide) (fun c2 => ?_) (fun c2 => ?_)
      · have hf := (if_neg c2).symm.trans hf
        exact w_X11_isInner_27 C0 N z (f_X11_isInner_4 N z n) ih _ hf _ _ _ hP hS (lv_sub hl [0, 2] rfl)
      · have hf := (if_pos c2).symm.trans hf
        refine lv_aload_n hx hb dX11_isInner_16 rfl (lv_at hl 0 rfl) ?_
        refine va_get (D := (dC, dI)) (ci := 11) (v := .ref (ad 18)) (C := RX11) (T := TX11) (N := 41) hx hb hts iw_X11_isInner_X11 hown hK.1 hP 0 rfl rfl 18 (by decide) fl49 (fun _ h9 => h9) rfl dX11_isInner_17 ?_
        refine lv_iload_n hx hb dX11_isInner_20 rfl (lv_at hl 2 rfl) ?_
        have g0 := ql_in (ql_gt hf)
        have hf := ql_gx hf
        refine va_iald (f := (z.1 18)) hx hb hK.1 hP 14 0 rfl rfl g0 dX11_isInner_21 ?_
        refine lv_bipush (v := 23) hx hb dX11_isInner_22 (by decide) ?_
        refine lv_icmp_ne (tgt := 31) hx hb dX11_isInner_24 (by decide) (fun c3 => ?_) (fun c3 => ?_)
        · have hf := (if_neg c3).symm.trans hf
          refine lv_iconst (v := 0) hx hb dX11_isInner_31 (by decide) ?_
          exact w_X11_isInner_32 C0 N z (f_X11_isInner_4 N z n) ih _ _ hf _ _ _ hP hS (lv_sub hl [0, 2] rfl)
        · have hf := (if_pos c3).symm.trans hf
          exact w_X11_isInner_27 C0 N z (f_X11_isInner_4 N z n) ih _ hf _ _ _ hP hS (lv_sub hl [0, 2] rfl)
set_option maxHeartbeats 4000000 in
set_option maxRecDepth 100000 in
theorem w_X11_isInner_0 {p : Program} {l : Launch} {e : Env} {s : State} {m : MethodId} {args : Array Value} {below : List Frame} {meth : Method} {c : Code} {dC : Nat → ClassId} {dI : Nat → Nat → Nat} {A : Nat → Prop} {h : Nat} {ad : Nat → Nat} {cI cZ cJ : ClassId} {res : Int32} (C0 : ql_C p s m args meth c cX11_isInner 3 (some .boolean) wsX11_isInner RX11 (dC, dI) [(cI, .int), (cZ, .boolean), (cJ, .long)] A) (N : Nat) (z : ql_Z) : f_X11_isInner_0 N z = some res → ∀ (H : Heap) (locs : List Loc) (ls : Array Slot), va_P (dC, dI) vwCl ((ql_mw h ad cI cZ cJ) z) H → va_S A s.heap H locs → lv_has ls 3 [(0, .ref h)] → W p l e rm_X11_isInner s m args below meth c H locs 0 0 (ql_Qri below A args s res) (F0 m 0 ls []) := by
  have C0q := C0
  obtain ⟨hx, hb, hr, hml, hown, hts, hlocks, hK, hA⟩ := C0q
  intro hf H locs ls hP hS hl
  unfold f_X11_isInner_0 at hf
  refine lv_iconst (v := 0) hx hb dX11_isInner_0 (by decide) ?_
  refine lv_istore_n (lv' := [(1, .int 0), (0, .ref h)]) hx hb dX11_isInner_1 rfl hl (by decide) rfl (fun ls hl => ?_)
  refine lv_iconst (v := 0) hx hb dX11_isInner_2 (by decide) ?_
  refine lv_istore_n (lv' := [(2, .int 0), (1, .int 0), (0, .ref h)]) hx hb dX11_isInner_3 rfl hl (by decide) rfl (fun ls hl => ?_)
  exact w_X11_isInner_4 C0 N z N _ _ hf _ _ _ hP hS (lv_sub hl [2, 1, 0] rfl)
set_option maxRecDepth 100000 in
theorem c_X11_isInner (l : Launch) (dC : Nat → ClassId) (dI : Nat → Nat → Nat) (h : Nat) (ad : Nat → Nat) (cI cZ cJ : ClassId) (N : Nat) (z : ql_Z) (res : Int32) (hf : f_X11_isInner N z = some res) : ql_Ri l yX11_isInner wsX11_isInner rm_X11_isInner (dC, dI) [(cI, .int), (cZ, .boolean), (cJ, .long)] ((ql_mw h ad cI cZ cJ) z) [.ref h] res :=
  ql_start_ri (by decide) rfl (Nat.le_of_ble_eq_true rfl) (fun p e s m below meth c A ls C0 hl hP hS => w_X11_isInner_0 C0 N z hf s.heap [] ls hP hS (lv_sub (show lv_has ls 3 [(0, .ref h)] from hl) [0] rfl))
/-! ===== TestedLoopsModel.test()I ===== -/
abbrev rm_X11_test : Room := { frames := 3, cells := 0, slots := 0, locals := 65 }
theorem iw_X11_test_X11 : ∀ w ∈ wsX110, w ∈ wsX11_test := fun w h => List.mem_cons_of_mem _ (List.mem_append_right _ h)
theorem qv_X11_test : yX11_test.cls = RX11 ∧ yX11_test.cls ≠ "java/lang/invoke/MethodHandle" ∧ yX11_test.cls ≠ "java/lang/invoke/VarHandle" ∧ (parseMethodDescriptor yX11_test.desc).map (fun d => d.parameters.length) = some 0 := by decide +kernel
def f_X11_test_279 (N : Nat) (k12 : ql_Z → Int32 → Option (Int32 × ql_Z)) (z : ql_Z) (x1 : Int32) : Option (Int32 × ql_Z) := (f_X11_scans N z).bind fun u1 => k12 u1 x1
def f_X11_test_172 (N : Nat) (k12 : ql_Z → Int32 → Option (Int32 × ql_Z)) (z : ql_Z) : Option (Int32 × ql_Z) := (f_X11_works N z (z.1 15 0)).bind fun u2 => if ql_ib (u2.1 20 0) 310 = true then f_X11_test_279 N k12 ((ql_up (ql_up u2.1 18 (upd (u2.1 18) ((u2.1 20 0).toNatClampNeg) (u2.1 15 0))) 20 (fun _ => ((u2.1 20 0) + 1))), u2.2) 1 else none
def f_X11_test_257 (N : Nat) (z : ql_Z) : Option (Int32 × ql_Z) := (f_X11_isInner N z).bind fun u3 => if u3 = 0 then (f_X11_works N z 20).bind fun u5 => some (((u5.1 17) 0), u5) else some ((-1), z)
def f_X11_test_34 (N : Nat) (k12 : ql_Z → Int32 → Option (Int32 × ql_Z)) (z : ql_Z) (x1 : Int32) : Option (Int32 × ql_Z) := if (z.1 21 0) = 8 then some ((-1), z) else if ql_ib (z.1 20 0) 310 = true then f_X11_test_279 N k12 ((ql_up (ql_up (ql_up z.1 18 (upd (z.1 18) ((z.1 20 0).toNatClampNeg) (z.1 15 0))) 20 (fun _ => ((z.1 20 0) + 1))) 21 (fun _ => ((z.1 21 0) + 1))), z.2) x1 else none
def f_X11_test_117 (N : Nat) (k12 : ql_Z → Int32 → Option (Int32 × ql_Z)) (z : ql_Z) : Option (Int32 × ql_Z) := (f_X11_atomsOf N (z.1 15 0)).bind fun u7 => if ql_ib (z.1 19 0) 310 = true then (f_X11_turns N ((ql_up (ql_up z.1 17 (upd (z.1 17) ((z.1 19 0).toNatClampNeg) u7)) 19 (fun _ => ((z.1 19 0) + 1))), z.2)).bind fun u8 => f_X11_test_279 N k12 u8 0 else none
def f_X11_test_12 (N : Nat) : Nat → ql_Z → Int32 → Option (Int32 × ql_Z)
  | 0, _, _ => none
  | n + 1, z, x1 => if x1 = 0 then if (z.1 15 0) = 21 then f_X11_test_172 N (f_X11_test_12 N n) z else if (z.1 15 0) = 20 then f_X11_test_172 N (f_X11_test_12 N n) z else if (z.1 15 0) = 24 then (f_X11_isInner N z).bind fun u13 => if u13 = 0 then f_X11_test_257 N z else (f_X11_works N z 20).bind fun u15 => (f_X11_turns N ((ql_up (ql_up u15.1 20 (fun _ => ((u15.1 20 0) - 1))) 21 (fun _ => ((u15.1 21 0) - 1))), u15.2)).bind fun u16 => f_X11_test_279 N (f_X11_test_12 N n) u16 x1 else f_X11_test_257 N z else if (z.1 15 0) = 22 then f_X11_test_34 N (f_X11_test_12 N n) z x1 else if (z.1 15 0) = 23 then f_X11_test_34 N (f_X11_test_12 N n) z x1 else if (z.1 15 0) = 12 then f_X11_test_117 N (f_X11_test_12 N n) z else if (z.1 15 0) = 13 then f_X11_test_117 N (f_X11_test_12 N n) z else if (z.1 15 0) = 17 then f_X11_test_117 N (f_X11_test_12 N n) z else if (z.1 15 0) = 18 then f_X11_test_117 N (f_X11_test_12 N n) z else some ((-1), z)
def f_X11_test_0 (N : Nat) (z : ql_Z) : Option (Int32 × ql_Z) := f_X11_test_12 N N ((ql_up (ql_up z.1 19 (fun _ => 0)) 20 (fun _ => 0)), z.2) 1
def f_X11_test (N : Nat) (z : ql_Z) : Option (Int32 × ql_Z) := f_X11_test_0 N z
set_option maxHeartbeats 4000000 in
set_option maxRecDepth 100000 in
theorem w_X11_test_279 {p : Program} {l : Launch} {e : Env} {s : State} {m : MethodId} {args : Array Value} {below : List Frame} {meth : Method} {c : Code} {dC : Nat → ClassId} {dI : Nat → Nat → Nat} {A : Nat → Prop} {h : Nat} {ad : Nat → Nat} {cI cZ cJ : ClassId} {res : Int32 × ql_Z} (C0 : ql_C p s m args meth c cX11_test 2 (some .int) wsX11_test RX11 (dC, dI) [(cI, .int), (cZ, .boolean), (cJ, .long)] A) (N : Nat) (k12 : ql_Z → Int32 → Option (Int32 × ql_Z)) (hk12 : ∀ (z : ql_Z) (x1 : Int32), k12 z x1 = some res → ∀ (H : Heap) (locs : List Loc) (ls : Array Slot), va_P (dC, dI) vwCl ((ql_mw h ad cI cZ cJ) z) H → va_D A ((ql_mw h ad cI cZ cJ) z) → va_S A s.heap H locs → lv_has ls 2 [(0, .ref h), (1, .int x1)] → W p l e rm_X11_test s m args below meth c H locs 0 0 (ql_Qi below (dC, dI) (ql_mw h ad cI cZ cJ) A args s res) (F0 m 12 ls [])) : ∀ (z : ql_Z) (x1 : Int32), f_X11_test_279 N k12 z x1 = some res → ∀ (H : Heap) (locs : List Loc) (ls : Array Slot), va_P (dC, dI) vwCl ((ql_mw h ad cI cZ cJ) z) H → va_D A ((ql_mw h ad cI cZ cJ) z) → va_S A s.heap H locs → lv_has ls 2 [(0, .ref h), (1, .int x1)] → W p l e rm_X11_test s m args below meth c H locs 0 0 (ql_Qi below (dC, dI) (ql_mw h ad cI cZ cJ) A args s res) (F0 m 279 ls []) := by
  have C0q := C0
  obtain ⟨hx, hb, hr, hml, hown, hts, hlocks, hK, hA⟩ := C0q
  intro z x1 hf H locs ls hP hD hS hl
  unfold f_X11_test_279 at hf
  refine lv_aload_n hx hb dX11_test_279 rfl (lv_at hl 0 rfl) ?_
  obtain ⟨u1, hu1, hf⟩ := ql_bd hf
  refine ql_callVv (As := []) (rest := []) C0 (c_X11_scans l dC dI h ad cI cZ cJ N z u1 hu1) (cwV 0 hts gX11_test_X11_scans rfl rfl rfl qv_X11_scans ⟨Nat.le_of_ble_eq_true rfl, Nat.le_of_ble_eq_true rfl⟩) (va_recv hK.1 hP (ci := 11) (q0 := 0) rfl rfl) hP hD hS hl.1 rfl rfl (Nat.le_of_ble_eq_true rfl) dX11_test_280 (fun H locs hP hD hS => ?_)
  refine lv_goto (tgt := 12) hx hb dX11_test_283 (by decide) ?_
  exact hk12 _ _ hf _ _ _ hP hD hS (lv_sub hl [0, 1] rfl)
set_option maxHeartbeats 4000000 in
set_option maxRecDepth 100000 in
theorem w_X11_test_172 {p : Program} {l : Launch} {e : Env} {s : State} {m : MethodId} {args : Array Value} {below : List Frame} {meth : Method} {c : Code} {dC : Nat → ClassId} {dI : Nat → Nat → Nat} {A : Nat → Prop} {h : Nat} {ad : Nat → Nat} {cI cZ cJ : ClassId} {res : Int32 × ql_Z} (C0 : ql_C p s m args meth c cX11_test 2 (some .int) wsX11_test RX11 (dC, dI) [(cI, .int), (cZ, .boolean), (cJ, .long)] A) (N : Nat) (k12 : ql_Z → Int32 → Option (Int32 × ql_Z)) (hk12 : ∀ (z : ql_Z) (x1 : Int32), k12 z x1 = some res → ∀ (H : Heap) (locs : List Loc) (ls : Array Slot), va_P (dC, dI) vwCl ((ql_mw h ad cI cZ cJ) z) H → va_D A ((ql_mw h ad cI cZ cJ) z) → va_S A s.heap H locs → lv_has ls 2 [(0, .ref h), (1, .int x1)] → W p l e rm_X11_test s m args below meth c H locs 0 0 (ql_Qi below (dC, dI) (ql_mw h ad cI cZ cJ) A args s res) (F0 m 12 ls [])) : ∀ (z : ql_Z), f_X11_test_172 N k12 z = some res → ∀ (H : Heap) (locs : List Loc) (ls : Array Slot), va_P (dC, dI) vwCl ((ql_mw h ad cI cZ cJ) z) H → va_D A ((ql_mw h ad cI cZ cJ) z) → va_S A s.heap H locs → lv_has ls 2 [(0, .ref h)] → W p l e rm_X11_test s m args below meth c H locs 0 0 (ql_Qi below (dC, dI) (ql_mw h ad cI cZ cJ) A args s res) (F0 m 172 ls []) := by
  have C0q := C0
  obtain ⟨hx, hb, hr, hml, hown, hts, hlocks, hK, hA⟩ := C0q
  have fl153 := hts (Cond.fieldLink RX11 153 "TestedLoopsModel" "token" "I") (by decide +kernel)
  have fl49 := hts (Cond.fieldLink RX11 49 "TestedLoopsModel" "waits" "[I") (by decide +kernel)
  have fl167 := hts (Cond.fieldLink RX11 167 "TestedLoopsModel" "waitMany" "I") (by decide +kernel)
  intro z hf H locs ls hP hD hS hl
  unfold f_X11_test_172 at hf
  refine lv_aload_n hx hb dX11_test_172 rfl (lv_at hl 0 rfl) ?_
  refine lv_aload_n hx hb dX11_test_173 rfl (lv_at hl 0 rfl) ?_
  refine va_get (D := (dC, dI)) (ci := 11) (v := .int (z.1 15 0)) (C := RX11) (T := TX11) (N := 41) hx hb hts iw_X11_test_X11 hown hK.1 hP 0 rfl rfl 15 (by decide) fl153 (fun _ h9 => h9) rfl dX11_test_174 ?_
  obtain ⟨u2, hu2, hf⟩ := ql_bd hf
  refine ql_callVv (As := [.int (z.1 15 0)]) (rest := []) C0 (c_X11_works l dC dI h ad cI cZ cJ N z (z.1 15 0) u2 hu2) (cwV 1 hts gX11_test_X11_works rfl rfl rfl qv_X11_works ⟨Nat.le_of_ble_eq_true rfl, Nat.le_of_ble_eq_true rfl⟩) (va_recv hK.1 hP (ci := 11) (q0 := 0) rfl rfl) hP hD hS hl.1 rfl rfl (Nat.le_of_ble_eq_true rfl) dX11_test_177 (fun H locs hP hD hS => ?_)
  refine lv_aload_n hx hb dX11_test_180 rfl (lv_at hl 0 rfl) ?_
  refine va_get (D := (dC, dI)) (ci := 11) (v := .ref (ad 18)) (C := RX11) (T := TX11) (N := 41) hx hb hts iw_X11_test_X11 hown hK.1 hP 0 rfl rfl 18 (by decide) fl49 (fun _ h9 => h9) rfl dX11_test_181 ?_
  refine lv_aload_n hx hb dX11_test_184 rfl (lv_at hl 0 rfl) ?_
  refine va_get (D := (dC, dI)) (ci := 11) (v := .int (u2.1 20 0)) (C := RX11) (T := TX11) (N := 41) hx hb hts iw_X11_test_X11 hown hK.1 hP 0 rfl rfl 20 (by decide) fl167 (fun _ h9 => h9) rfl dX11_test_185 ?_
  refine lv_aload_n hx hb dX11_test_188 rfl (lv_at hl 0 rfl) ?_
  refine va_get (D := (dC, dI)) (ci := 11) (v := .int (u2.1 15 0)) (C := RX11) (T := TX11) (N := 41) hx hb hts iw_X11_test_X11 hown hK.1 hP 0 rfl rfl 15 (by decide) fl153 (fun _ h9 => h9) rfl dX11_test_189 ?_
  have g0 := ql_in (ql_gt hf)
  have hf := ql_gx hf
  refine va_iast (f := (u2.1 18)) hx hb hK.1 hP hD hS 14 0 rfl rfl g0 dX11_test_192 (fun H locs hP hD hS => ?_)
  refine lv_aload_n hx hb dX11_test_193 rfl (lv_at hl 0 rfl) ?_
  refine lv_dup hx hb dX11_test_194 rfl ?_
  refine va_get (D := (dC, dI)) (ci := 11) (v := .int (u2.1 20 0)) (C := RX11) (T := TX11) (N := 41) hx hb hts iw_X11_test_X11 hown hK.1 hP 0 rfl rfl 20 (by decide) fl167 (fun _ h9 => h9) rfl dX11_test_195 ?_
  refine lv_iconst (v := 1) hx hb dX11_test_198 (by decide) ?_
  refine lv_iadd hx hb dX11_test_199 ?_
  refine va_put (D := (dC, dI)) (ci := 11) (v := .int ((u2.1 20 0) + 1)) (ty := .int) (C := RX11) (T := TX11) (N := 41) hx hb hts iw_X11_test_X11 tyX11 tyX11_ok nmX11 hown hK.1 hP hD hS 0 rfl rfl 20 (by decide) fl167 (fun _ h9 => h9) rfl (by decide +kernel) rfl rfl (Nat.le_of_ble_eq_true rfl) dX11_test_200 (fun H locs hP hD hS => ?_)
  refine lv_iconst (v := 1) hx hb dX11_test_203 (by decide) ?_
  refine lv_istore_n (lv' := [(1, .int 1), (0, .ref h)]) hx hb dX11_test_204 rfl hl (by decide) rfl (fun ls hl => ?_)
  refine lv_goto (tgt := 279) hx hb dX11_test_205 (by decide) ?_
  exact w_X11_test_279 C0 N k12 hk12 _ _ hf _ _ _ hP hD hS (lv_sub hl [1, 0] rfl)
set_option maxHeartbeats 4000000 in
set_option maxRecDepth 100000 in
theorem w_X11_test_257 {p : Program} {l : Launch} {e : Env} {s : State} {m : MethodId} {args : Array Value} {below : List Frame} {meth : Method} {c : Code} {dC : Nat → ClassId} {dI : Nat → Nat → Nat} {A : Nat → Prop} {h : Nat} {ad : Nat → Nat} {cI cZ cJ : ClassId} {res : Int32 × ql_Z} (C0 : ql_C p s m args meth c cX11_test 2 (some .int) wsX11_test RX11 (dC, dI) [(cI, .int), (cZ, .boolean), (cJ, .long)] A) (N : Nat) : ∀ (z : ql_Z), f_X11_test_257 N z = some res → ∀ (H : Heap) (locs : List Loc) (ls : Array Slot), va_P (dC, dI) vwCl ((ql_mw h ad cI cZ cJ) z) H → va_D A ((ql_mw h ad cI cZ cJ) z) → va_S A s.heap H locs → lv_has ls 2 [(0, .ref h)] → W p l e rm_X11_test s m args below meth c H locs 0 0 (ql_Qi below (dC, dI) (ql_mw h ad cI cZ cJ) A args s res) (F0 m 257 ls []) := by
  have C0q := C0
  obtain ⟨hx, hb, hr, hml, hown, hts, hlocks, hK, hA⟩ := C0q
  have fl46 := hts (Cond.fieldLink RX11 46 "TestedLoopsModel" "vals" "[I") (by decide +kernel)
  intro z hf H locs ls hP hD hS hl
  unfold f_X11_test_257 at hf
  refine lv_aload_n hx hb dX11_test_257 rfl (lv_at hl 0 rfl) ?_
  obtain ⟨u3, hu3, hf⟩ := ql_bd hf
  refine ql_callRVi (As := []) (rest := []) C0 (c_X11_isInner l dC dI h ad cI cZ cJ N z u3 hu3) (cwV 0 hts gX11_test_X11_isInner rfl rfl rfl qv_X11_isInner ⟨Nat.le_of_ble_eq_true rfl, Nat.le_of_ble_eq_true rfl⟩) (va_recv hK.1 hP (ci := 11) (q0 := 0) rfl rfl) hK hP hS hl.1 rfl rfl (Nat.le_of_ble_eq_true rfl) dX11_test_258 (fun H1 locs hk hS => ?_)
  have hP := ql_keep hP hk
  refine lv_if_eq (tgt := 266) hx hb dX11_test_261 (by decide) (fun c4 => ?_) (fun c4 => ?_)
  · have hf := (if_pos c4).symm.trans hf
    refine lv_aload_n hx hb dX11_test_266 rfl (lv_at hl 0 rfl) ?_
    refine lv_bipush (v := 20) hx hb dX11_test_267 (by decide) ?_
    obtain ⟨u5, hu5, hf⟩ := ql_bd hf
    refine ql_callVv (As := [.int 20]) (rest := []) C0 (c_X11_works l dC dI h ad cI cZ cJ N z 20 u5 hu5) (cwV 1 hts gX11_test_X11_works rfl rfl rfl qv_X11_works ⟨Nat.le_of_ble_eq_true rfl, Nat.le_of_ble_eq_true rfl⟩) (va_recv hK.1 hP (ci := 11) (q0 := 0) rfl rfl) hP hD hS hl.1 rfl rfl (Nat.le_of_ble_eq_true rfl) dX11_test_269 (fun H locs hP hD hS => ?_)
    refine lv_aload_n hx hb dX11_test_272 rfl (lv_at hl 0 rfl) ?_
    refine va_get (D := (dC, dI)) (ci := 11) (v := .ref (ad 17)) (C := RX11) (T := TX11) (N := 41) hx hb hts iw_X11_test_X11 hown hK.1 hP 0 rfl rfl 17 (by decide) fl46 (fun _ h9 => h9) rfl dX11_test_273 ?_
    refine lv_iconst (v := 0) hx hb dX11_test_276 (by decide) ?_
    refine va_iald (f := (u5.1 17)) hx hb hK.1 hP 13 0 rfl rfl (ql_in (i := 0) (n := 310) (by decide)) dX11_test_277 ?_
    refine ql_tv (y := (u5.1 17) 0) (congrArg (u5.1 17) (by decide)) ?_
    exact ql_iret C0 hf hP hD hS dX11_test_278
  · have hf := (if_neg c4).symm.trans hf
    refine lv_iconst (v := (-1)) hx hb dX11_test_264 (by decide) ?_
    exact ql_iret C0 hf hP hD hS dX11_test_265
set_option maxHeartbeats 4000000 in
set_option maxRecDepth 100000 in
theorem w_X11_test_34 {p : Program} {l : Launch} {e : Env} {s : State} {m : MethodId} {args : Array Value} {below : List Frame} {meth : Method} {c : Code} {dC : Nat → ClassId} {dI : Nat → Nat → Nat} {A : Nat → Prop} {h : Nat} {ad : Nat → Nat} {cI cZ cJ : ClassId} {res : Int32 × ql_Z} (C0 : ql_C p s m args meth c cX11_test 2 (some .int) wsX11_test RX11 (dC, dI) [(cI, .int), (cZ, .boolean), (cJ, .long)] A) (N : Nat) (k12 : ql_Z → Int32 → Option (Int32 × ql_Z)) (hk12 : ∀ (z : ql_Z) (x1 : Int32), k12 z x1 = some res → ∀ (H : Heap) (locs : List Loc) (ls : Array Slot), va_P (dC, dI) vwCl ((ql_mw h ad cI cZ cJ) z) H → va_D A ((ql_mw h ad cI cZ cJ) z) → va_S A s.heap H locs → lv_has ls 2 [(0, .ref h), (1, .int x1)] → W p l e rm_X11_test s m args below meth c H locs 0 0 (ql_Qi below (dC, dI) (ql_mw h ad cI cZ cJ) A args s res) (F0 m 12 ls [])) : ∀ (z : ql_Z) (x1 : Int32), f_X11_test_34 N k12 z x1 = some res → ∀ (H : Heap) (locs : List Loc) (ls : Array Slot), va_P (dC, dI) vwCl ((ql_mw h ad cI cZ cJ) z) H → va_D A ((ql_mw h ad cI cZ cJ) z) → va_S A s.heap H locs → lv_has ls 2 [(0, .ref h), (1, .int x1)] → W p l e rm_X11_test s m args below meth c H locs 0 0 (ql_Qi below (dC, dI) (ql_mw h ad cI cZ cJ) A args s res) (F0 m 34 ls []) := by
  have C0q := C0
  obtain ⟨hx, hb, hr, hml, hown, hts, hlocks, hK, hA⟩ := C0q
  have fl173 := hts (Cond.fieldLink RX11 173 "TestedLoopsModel" "open" "I") (by decide +kernel)
  have fl49 := hts (Cond.fieldLink RX11 49 "TestedLoopsModel" "waits" "[I") (by decide +kernel)
  have fl167 := hts (Cond.fieldLink RX11 167 "TestedLoopsModel" "waitMany" "I") (by decide +kernel)
  have fl153 := hts (Cond.fieldLink RX11 153 "TestedLoopsModel" "token" "I") (by decide +kernel)
  intro z x1 hf H locs ls hP hD hS hl
  unfold f_X11_test_34 at hf
  refine lv_aload_n hx hb dX11_test_34 rfl (lv_at hl 0 rfl) ?_
  refine va_get (D := (dC, dI)) (ci := 11) (v := .int (z.1 21 0)) (C := RX11) (T := TX11) (N := 41) hx hb hts iw_X11_test_X11 hown hK.1 hP 0 rfl rfl 21 (by decide) fl173 (fun _ h9 => h9) rfl dX11_test_35 ?_
  refine lv_bipush (v := 8) hx hb dX11_test_38 (by decide) ?_
  refine lv_icmp_ne (tgt := 45) hx hb dX11_test_40 (by decide) (fun c6 => ?_) (fun c6 => ?_)
  · have hf := (if_neg c6).symm.trans hf
    refine lv_aload_n hx hb dX11_test_45 rfl (lv_at hl 0 rfl) ?_
    refine lv_dup hx hb dX11_test_46 rfl ?_
    refine va_get (D := (dC, dI)) (ci := 11) (v := .int (z.1 21 0)) (C := RX11) (T := TX11) (N := 41) hx hb hts iw_X11_test_X11 hown hK.1 hP 0 rfl rfl 21 (by decide) fl173 (fun _ h9 => h9) rfl dX11_test_47 ?_
    refine lv_iconst (v := 1) hx hb dX11_test_50 (by decide) ?_
    refine lv_iadd hx hb dX11_test_51 ?_
    refine va_put (D := (dC, dI)) (ci := 11) (v := .int ((z.1 21 0) + 1)) (ty := .int) (C := RX11) (T := TX11) (N := 41) hx hb hts iw_X11_test_X11 tyX11 tyX11_ok nmX11 hown hK.1 hP hD hS 0 rfl rfl 21 (by decide) fl173 (fun _ h9 => h9) rfl (by decide +kernel) rfl rfl (Nat.le_of_ble_eq_true rfl) dX11_test_52 (fun H locs hP hD hS => ?_)
    refine lv_aload_n hx hb dX11_test_55 rfl (lv_at hl 0 rfl) ?_
    refine va_get (D := (dC, dI)) (ci := 11) (v := .ref (ad 18)) (C := RX11) (T := TX11) (N := 41) hx hb hts iw_X11_test_X11 hown hK.1 hP 0 rfl rfl 18 (by decide) fl49 (fun _ h9 => h9) rfl dX11_test_56 ?_
    refine lv_aload_n hx hb dX11_test_59 rfl (lv_at hl 0 rfl) ?_
    refine va_get (D := (dC, dI)) (ci := 11) (v := .int (z.1 20 0)) (C := RX11) (T := TX11) (N := 41) hx hb hts iw_X11_test_X11 hown hK.1 hP 0 rfl rfl 20 (by decide) fl167 (fun _ h9 => h9) rfl dX11_test_60 ?_
    refine lv_aload_n hx hb dX11_test_63 rfl (lv_at hl 0 rfl) ?_
    refine va_get (D := (dC, dI)) (ci := 11) (v := .int (z.1 15 0)) (C := RX11) (T := TX11) (N := 41) hx hb hts iw_X11_test_X11 hown hK.1 hP 0 rfl rfl 15 (by decide) fl153 (fun _ h9 => h9) rfl dX11_test_64 ?_
    have g0 := ql_in (ql_gt hf)
    have hf := ql_gx hf
    refine va_iast (f := (z.1 18)) hx hb hK.1 hP hD hS 14 0 rfl rfl g0 dX11_test_67 (fun H locs hP hD hS => ?_)
    refine lv_aload_n hx hb dX11_test_68 rfl (lv_at hl 0 rfl) ?_
    refine lv_dup hx hb dX11_test_69 rfl ?_
    refine va_get (D := (dC, dI)) (ci := 11) (v := .int (z.1 20 0)) (C := RX11) (T := TX11) (N := 41) hx hb hts iw_X11_test_X11 hown hK.1 hP 0 rfl rfl 20 (by decide) fl167 (fun _ h9 => h9) rfl dX11_test_70 ?_
    refine lv_iconst (v := 1) hx hb dX11_test_73 (by decide) ?_
    refine lv_iadd hx hb dX11_test_74 ?_
    refine va_put (D := (dC, dI)) (ci := 11) (v := .int ((z.1 20 0) + 1)) (ty := .int) (C := RX11) (T := TX11) (N := 41) hx hb hts iw_X11_test_X11 tyX11 tyX11_ok nmX11 hown hK.1 hP hD hS 0 rfl rfl 20 (by decide) fl167 (fun _ h9 => h9) rfl (by decide +kernel) rfl rfl (Nat.le_of_ble_eq_true rfl) dX11_test_75 (fun H locs hP hD hS => ?_)
    refine lv_goto (tgt := 279) hx hb dX11_test_78 (by decide) ?_
    exact w_X11_test_279 C0 N k12 hk12 _ _ hf _ _ _ hP hD hS (lv_sub hl [0, 1] rfl)
  · have hf := (if_pos c6).symm.trans hf
    refine lv_iconst (v := (-1)) hx hb dX11_test_43 (by decide) ?_
    exact ql_iret C0 hf hP hD hS dX11_test_44
set_option maxHeartbeats 4000000 in
set_option maxRecDepth 100000 in
theorem w_X11_test_117 {p : Program} {l : Launch} {e : Env} {s : State} {m : MethodId} {args : Array Value} {below : List Frame} {meth : Method} {c : Code} {dC : Nat → ClassId} {dI : Nat → Nat → Nat} {A : Nat → Prop} {h : Nat} {ad : Nat → Nat} {cI cZ cJ : ClassId} {res : Int32 × ql_Z} (C0 : ql_C p s m args meth c cX11_test 2 (some .int) wsX11_test RX11 (dC, dI) [(cI, .int), (cZ, .boolean), (cJ, .long)] A) (N : Nat) (k12 : ql_Z → Int32 → Option (Int32 × ql_Z)) (hk12 : ∀ (z : ql_Z) (x1 : Int32), k12 z x1 = some res → ∀ (H : Heap) (locs : List Loc) (ls : Array Slot), va_P (dC, dI) vwCl ((ql_mw h ad cI cZ cJ) z) H → va_D A ((ql_mw h ad cI cZ cJ) z) → va_S A s.heap H locs → lv_has ls 2 [(0, .ref h), (1, .int x1)] → W p l e rm_X11_test s m args below meth c H locs 0 0 (ql_Qi below (dC, dI) (ql_mw h ad cI cZ cJ) A args s res) (F0 m 12 ls [])) : ∀ (z : ql_Z), f_X11_test_117 N k12 z = some res → ∀ (H : Heap) (locs : List Loc) (ls : Array Slot), va_P (dC, dI) vwCl ((ql_mw h ad cI cZ cJ) z) H → va_D A ((ql_mw h ad cI cZ cJ) z) → va_S A s.heap H locs → lv_has ls 2 [(0, .ref h)] → W p l e rm_X11_test s m args below meth c H locs 0 0 (ql_Qi below (dC, dI) (ql_mw h ad cI cZ cJ) A args s res) (F0 m 117 ls []) := by
  have C0q := C0
  obtain ⟨hx, hb, hr, hml, hown, hts, hlocks, hK, hA⟩ := C0q
  have fl46 := hts (Cond.fieldLink RX11 46 "TestedLoopsModel" "vals" "[I") (by decide +kernel)
  have fl170 := hts (Cond.fieldLink RX11 170 "TestedLoopsModel" "valMany" "I") (by decide +kernel)
  have fl153 := hts (Cond.fieldLink RX11 153 "TestedLoopsModel" "token" "I") (by decide +kernel)
  intro z hf H locs ls hP hD hS hl
  unfold f_X11_test_117 at hf
  refine lv_aload_n hx hb dX11_test_117 rfl (lv_at hl 0 rfl) ?_
  refine va_get (D := (dC, dI)) (ci := 11) (v := .ref (ad 17)) (C := RX11) (T := TX11) (N := 41) hx hb hts iw_X11_test_X11 hown hK.1 hP 0 rfl rfl 17 (by decide) fl46 (fun _ h9 => h9) rfl dX11_test_118 ?_
  refine lv_aload_n hx hb dX11_test_121 rfl (lv_at hl 0 rfl) ?_
  refine va_get (D := (dC, dI)) (ci := 11) (v := .int (z.1 19 0)) (C := RX11) (T := TX11) (N := 41) hx hb hts iw_X11_test_X11 hown hK.1 hP 0 rfl rfl 19 (by decide) fl170 (fun _ h9 => h9) rfl dX11_test_122 ?_
  refine lv_aload_n hx hb dX11_test_125 rfl (lv_at hl 0 rfl) ?_
  refine va_get (D := (dC, dI)) (ci := 11) (v := .int (z.1 15 0)) (C := RX11) (T := TX11) (N := 41) hx hb hts iw_X11_test_X11 hown hK.1 hP 0 rfl rfl 15 (by decide) fl153 (fun _ h9 => h9) rfl dX11_test_126 ?_
  obtain ⟨u7, hu7, hf⟩ := ql_bd hf
  refine ql_callRSi (As := [.int (z.1 15 0)]) (rest := [.int (z.1 19 0), .ref (ad 17)]) C0 (c_X11_atomsOf l dC dI N (z.1 15 0) u7 hu7) (va_cwS 1 hts gX11_test_X11_atomsOf rfl rfl rfl qd_X11_atomsOf ⟨Nat.le_of_ble_eq_true rfl, Nat.le_of_ble_eq_true rfl⟩) (hK.sub [] rfl) ql_nil hS hl.1 rfl rfl (Nat.le_of_ble_eq_true rfl) dX11_test_129 (fun H1 locs hk hS => ?_)
  have hP := ql_keep hP hk
  have g0 := ql_in (ql_gt hf)
  have hf := ql_gx hf
  refine va_iast (f := (z.1 17)) hx hb hK.1 hP hD hS 13 0 rfl rfl g0 dX11_test_132 (fun H locs hP hD hS => ?_)
  refine lv_aload_n hx hb dX11_test_133 rfl (lv_at hl 0 rfl) ?_
  refine lv_dup hx hb dX11_test_134 rfl ?_
  refine va_get (D := (dC, dI)) (ci := 11) (v := .int (z.1 19 0)) (C := RX11) (T := TX11) (N := 41) hx hb hts iw_X11_test_X11 hown hK.1 hP 0 rfl rfl 19 (by decide) fl170 (fun _ h9 => h9) rfl dX11_test_135 ?_
  refine lv_iconst (v := 1) hx hb dX11_test_138 (by decide) ?_
  refine lv_iadd hx hb dX11_test_139 ?_
  refine va_put (D := (dC, dI)) (ci := 11) (v := .int ((z.1 19 0) + 1)) (ty := .int) (C := RX11) (T := TX11) (N := 41) hx hb hts iw_X11_test_X11 tyX11 tyX11_ok nmX11 hown hK.1 hP hD hS 0 rfl rfl 19 (by decide) fl170 (fun _ h9 => h9) rfl (by decide +kernel) rfl rfl (Nat.le_of_ble_eq_true rfl) dX11_test_140 (fun H locs hP hD hS => ?_)
  refine lv_aload_n hx hb dX11_test_143 rfl (lv_at hl 0 rfl) ?_
  obtain ⟨u8, hu8, hf⟩ := ql_bd hf
  refine ql_callVv (As := []) (rest := []) C0 (c_X11_turns l dC dI h ad cI cZ cJ N ((ql_up (ql_up z.1 17 (upd (z.1 17) ((z.1 19 0).toNatClampNeg) u7)) 19 (fun _ => ((z.1 19 0) + 1))), z.2) u8 hu8) (cwV 0 hts gX11_test_X11_turns rfl rfl rfl qv_X11_turns ⟨Nat.le_of_ble_eq_true rfl, Nat.le_of_ble_eq_true rfl⟩) (va_recv hK.1 hP (ci := 11) (q0 := 0) rfl rfl) hP hD hS hl.1 rfl rfl (Nat.le_of_ble_eq_true rfl) dX11_test_144 (fun H locs hP hD hS => ?_)
  refine lv_iconst (v := 0) hx hb dX11_test_147 (by decide) ?_
  refine lv_istore_n (lv' := [(1, .int 0), (0, .ref h)]) hx hb dX11_test_148 rfl hl (by decide) rfl (fun ls hl => ?_)
  refine lv_goto (tgt := 279) hx hb dX11_test_149 (by decide) ?_
  exact w_X11_test_279 C0 N k12 hk12 _ _ hf _ _ _ hP hD hS (lv_sub hl [1, 0] rfl)
set_option maxHeartbeats 4000000 in
set_option maxRecDepth 100000 in
theorem w_X11_test_12 {p : Program} {l : Launch} {e : Env} {s : State} {m : MethodId} {args : Array Value} {below : List Frame} {meth : Method} {c : Code} {dC : Nat → ClassId} {dI : Nat → Nat → Nat} {A : Nat → Prop} {h : Nat} {ad : Nat → Nat} {cI cZ cJ : ClassId} {res : Int32 × ql_Z} (C0 : ql_C p s m args meth c cX11_test 2 (some .int) wsX11_test RX11 (dC, dI) [(cI, .int), (cZ, .boolean), (cJ, .long)] A) (N : Nat) : ∀ (n : Nat), ∀ (z : ql_Z) (x1 : Int32), f_X11_test_12 N n z x1 = some res → ∀ (H : Heap) (locs : List Loc) (ls : Array Slot), va_P (dC, dI) vwCl ((ql_mw h ad cI cZ cJ) z) H → va_D A ((ql_mw h ad cI cZ cJ) z) → va_S A s.heap H locs → lv_has ls 2 [(0, .ref h), (1, .int x1)] → W p l e rm_X11_test s m args below meth c H locs 0 0 (ql_Qi below (dC, dI) (ql_mw h ad cI cZ cJ) A args s res) (F0 m 12 ls []) := by
  have C0q := C0
  obtain ⟨hx, hb, hr, hml, hown, hts, hlocks, hK, hA⟩ := C0q
  have fl153 := hts (Cond.fieldLink RX11 153 "TestedLoopsModel" "token" "I") (by decide +kernel)
  have fl167 := hts (Cond.fieldLink RX11 167 "TestedLoopsModel" "waitMany" "I") (by decide +kernel)
  have fl173 := hts (Cond.fieldLink RX11 173 "TestedLoopsModel" "open" "I") (by decide +kernel)
  intro n
  induction n with
  | zero =>
    intro z x1 hf
    rw [f_X11_test_12] at hf
    cases hf
  | succ n ih =>
    intro z x1 hf H locs ls hP hD hS hl
    rw [f_X11_test_12] at hf
    refine lv_iload_n hx hb dX11_test_12 rfl (lv_at hl 1 rfl) ?_
    refine lv_if_eq (tgt := 154) hx hb dX11_test_13 (by decide) (fun c9 => ?_) (fun c9 => ?_)
    · have hf := (if_pos c9).symm.trans hf
      refine lv_aload_n hx hb dX11_test_154 rfl (lv_at hl 0 rfl) ?_
      refine va_get (D := (dC, dI)) (ci := 11) (v := .int (z.1 15 0)) (C := RX11) (T := TX11) (N := 41) hx hb hts iw_X11_test_X11 hown hK.1 hP 0 rfl rfl 15 (by decide) fl153 (fun _ h9 => h9) rfl dX11_test_155 ?_
      refine lv_bipush (v := 21) hx hb dX11_test_158 (by decide) ?_
      refine lv_icmp_eq (tgt := 172) hx hb dX11_test_160 (by decide) (fun c10 => ?_) (fun c10 => ?_)
      · have hf := (if_pos c10).symm.trans hf
        exact w_X11_test_172 C0 N (f_X11_test_12 N n) ih _ hf _ _ _ hP hD hS (lv_sub hl [0] rfl)
      · have hf := (if_neg c10).symm.trans hf
        refine lv_aload_n hx hb dX11_test_163 rfl (lv_at hl 0 rfl) ?_
        refine va_get (D := (dC, dI)) (ci := 11) (v := .int (z.1 15 0)) (C := RX11) (T := TX11) (N := 41) hx hb hts iw_X11_test_X11 hown hK.1 hP 0 rfl rfl 15 (by decide) fl153 (fun _ h9 => h9) rfl dX11_test_164 ?_
        refine lv_bipush (v := 20) hx hb dX11_test_167 (by decide) ?_
        refine lv_icmp_ne (tgt := 208) hx hb dX11_test_169 (by decide) (fun c11 => ?_) (fun c11 => ?_)
        · have hf := (if_neg c11).symm.trans hf
          refine lv_aload_n hx hb dX11_test_208 rfl (lv_at hl 0 rfl) ?_
          refine va_get (D := (dC, dI)) (ci := 11) (v := .int (z.1 15 0)) (C := RX11) (T := TX11) (N := 41) hx hb hts iw_X11_test_X11 hown hK.1 hP 0 rfl rfl 15 (by decide) fl153 (fun _ h9 => h9) rfl dX11_test_209 ?_
          refine lv_bipush (v := 24) hx hb dX11_test_212 (by decide) ?_
          refine lv_icmp_ne (tgt := 257) hx hb dX11_test_214 (by decide) (fun c12 => ?_) (fun c12 => ?_)
          · have hf := (if_neg c12).symm.trans hf
            exact w_X11_test_257 C0 N _ hf _ _ _ hP hD hS (lv_sub hl [0] rfl)
          · have hf := (if_pos c12).symm.trans hf
            refine lv_aload_n hx hb dX11_test_217 rfl (lv_at hl 0 rfl) ?_
            obtain ⟨u13, hu13, hf⟩ := ql_bd hf
            refine ql_callRVi (As := []) (rest := []) C0 (c_X11_isInner l dC dI h ad cI cZ cJ N z u13 hu13) (cwV 0 hts gX11_test_X11_isInner rfl rfl rfl qv_X11_isInner ⟨Nat.le_of_ble_eq_true rfl, Nat.le_of_ble_eq_true rfl⟩) (va_recv hK.1 hP (ci := 11) (q0 := 0) rfl rfl) hK hP hS hl.1 rfl rfl (Nat.le_of_ble_eq_true rfl) dX11_test_218 (fun H1 locs hk hS => ?_)
            have hP := ql_keep hP hk
            refine lv_if_eq (tgt := 257) hx hb dX11_test_221 (by decide) (fun c14 => ?_) (fun c14 => ?_)
            · have hf := (if_pos c14).symm.trans hf
              exact w_X11_test_257 C0 N _ hf _ _ _ hP hD hS (lv_sub hl [0] rfl)
            · have hf := (if_neg c14).symm.trans hf
              refine lv_aload_n hx hb dX11_test_224 rfl (lv_at hl 0 rfl) ?_
              refine lv_bipush (v := 20) hx hb dX11_test_225 (by decide) ?_
              obtain ⟨u15, hu15, hf⟩ := ql_bd hf
              refine ql_callVv (As := [.int 20]) (rest := []) C0 (c_X11_works l dC dI h ad cI cZ cJ N z 20 u15 hu15) (cwV 1 hts gX11_test_X11_works rfl rfl rfl qv_X11_works ⟨Nat.le_of_ble_eq_true rfl, Nat.le_of_ble_eq_true rfl⟩) (va_recv hK.1 hP (ci := 11) (q0 := 0) rfl rfl) hP hD hS hl.1 rfl rfl (Nat.le_of_ble_eq_true rfl) dX11_test_227 (fun H locs hP hD hS => ?_)
              refine lv_aload_n hx hb dX11_test_230 rfl (lv_at hl 0 rfl) ?_
              refine lv_dup hx hb dX11_test_231 rfl ?_
              refine va_get (D := (dC, dI)) (ci := 11) (v := .int (u15.1 20 0)) (C := RX11) (T := TX11) (N := 41) hx hb hts iw_X11_test_X11 hown hK.1 hP 0 rfl rfl 20 (by decide) fl167 (fun _ h9 => h9) rfl dX11_test_232 ?_
              refine lv_iconst (v := 1) hx hb dX11_test_235 (by decide) ?_
              refine lv_isub hx hb dX11_test_236 ?_
              refine va_put (D := (dC, dI)) (ci := 11) (v := .int ((u15.1 20 0) - 1)) (ty := .int) (C := RX11) (T := TX11) (N := 41) hx hb hts iw_X11_test_X11 tyX11 tyX11_ok nmX11 hown hK.1 hP hD hS 0 rfl rfl 20 (by decide) fl167 (fun _ h9 => h9) rfl (by decide +kernel) rfl rfl (Nat.le_of_ble_eq_true rfl) dX11_test_237 (fun H locs hP hD hS => ?_)
              refine lv_aload_n hx hb dX11_test_240 rfl (lv_at hl 0 rfl) ?_
              refine lv_dup hx hb dX11_test_241 rfl ?_
              refine va_get (D := (dC, dI)) (ci := 11) (v := .int (u15.1 21 0)) (C := RX11) (T := TX11) (N := 41) hx hb hts iw_X11_test_X11 hown hK.1 hP 0 rfl rfl 21 (by decide) fl173 (fun _ h9 => h9) rfl dX11_test_242 ?_
              refine lv_iconst (v := 1) hx hb dX11_test_245 (by decide) ?_
              refine lv_isub hx hb dX11_test_246 ?_
              refine va_put (D := (dC, dI)) (ci := 11) (v := .int ((u15.1 21 0) - 1)) (ty := .int) (C := RX11) (T := TX11) (N := 41) hx hb hts iw_X11_test_X11 tyX11 tyX11_ok nmX11 hown hK.1 hP hD hS 0 rfl rfl 21 (by decide) fl173 (fun _ h9 => h9) rfl (by decide +kernel) rfl rfl (Nat.le_of_ble_eq_true rfl) dX11_test_247 (fun H locs hP hD hS => ?_)
              refine lv_aload_n hx hb dX11_test_250 rfl (lv_at hl 0 rfl) ?_
              obtain ⟨u16, hu16, hf⟩ := ql_bd hf
              refine ql_callVv (As := []) (rest := []) C0 (c_X11_turns l dC dI h ad cI cZ cJ N ((ql_up (ql_up u15.1 20 (fun _ => ((u15.1 20 0) - 1))) 21 (fun _ => ((u15.1 21 0) - 1))), u15.2) u16 hu16) (cwV 0 hts gX11_test_X11_turns rfl rfl rfl qv_X11_turns ⟨Nat.le_of_ble_eq_true rfl, Nat.le_of_ble_eq_true rfl⟩) (va_recv hK.1 hP (ci := 11) (q0 := 0) rfl rfl) hP hD hS hl.1 rfl rfl (Nat.le_of_ble_eq_true rfl) dX11_test_251 (fun H locs hP hD hS => ?_)
              refine lv_goto (tgt := 279) hx hb dX11_test_254 (by decide) ?_
              exact w_X11_test_279 C0 N (f_X11_test_12 N n) ih _ _ hf _ _ _ hP hD hS (lv_sub hl [0, 1] rfl)
        · have hf := (if_pos c11).symm.trans hf
          exact w_X11_test_172 C0 N (f_X11_test_12 N n) ih _ hf _ _ _ hP hD hS (lv_sub hl [0] rfl)
    · have hf := (if_neg c9).symm.trans hf
      refine lv_aload_n hx hb dX11_test_16 rfl (lv_at hl 0 rfl) ?_
      refine va_get (D := (dC, dI)) (ci := 11) (v := .int (z.1 15 0)) (C := RX11) (T := TX11) (N := 41) hx hb hts iw_X11_test_X11 hown hK.1 hP 0 rfl rfl 15 (by decide) fl153 (fun _ h9 => h9) rfl dX11_test_17 ?_
      refine lv_bipush (v := 22) hx hb dX11_test_20 (by decide) ?_
      refine lv_icmp_eq (tgt := 34) hx hb dX11_test_22 (by decide) (fun c17 => ?_) (fun c17 => ?_)
      · have hf := (if_pos c17).symm.trans hf
        exact w_X11_test_34 C0 N (f_X11_test_12 N n) ih _ _ hf _ _ _ hP hD hS (lv_sub hl [0, 1] rfl)
      · have hf := (if_neg c17).symm.trans hf
        refine lv_aload_n hx hb dX11_test_25 rfl (lv_at hl 0 rfl) ?_
        refine va_get (D := (dC, dI)) (ci := 11) (v := .int (z.1 15 0)) (C := RX11) (T := TX11) (N := 41) hx hb hts iw_X11_test_X11 hown hK.1 hP 0 rfl rfl 15 (by decide) fl153 (fun _ h9 => h9) rfl dX11_test_26 ?_
        refine lv_bipush (v := 23) hx hb dX11_test_29 (by decide) ?_
        refine lv_icmp_ne (tgt := 81) hx hb dX11_test_31 (by decide) (fun c18 => ?_) (fun c18 => ?_)
        · have hf := (if_neg c18).symm.trans hf
          refine lv_aload_n hx hb dX11_test_81 rfl (lv_at hl 0 rfl) ?_
          refine va_get (D := (dC, dI)) (ci := 11) (v := .int (z.1 15 0)) (C := RX11) (T := TX11) (N := 41) hx hb hts iw_X11_test_X11 hown hK.1 hP 0 rfl rfl 15 (by decide) fl153 (fun _ h9 => h9) rfl dX11_test_82 ?_
          refine lv_bipush (v := 12) hx hb dX11_test_85 (by decide) ?_
          refine lv_icmp_eq (tgt := 117) hx hb dX11_test_87 (by decide) (fun c19 => ?_) (fun c19 => ?_)
          · have hf := (if_pos c19).symm.trans hf
            exact w_X11_test_117 C0 N (f_X11_test_12 N n) ih _ hf _ _ _ hP hD hS (lv_sub hl [0] rfl)
          · have hf := (if_neg c19).symm.trans hf
            refine lv_aload_n hx hb dX11_test_90 rfl (lv_at hl 0 rfl) ?_
            refine va_get (D := (dC, dI)) (ci := 11) (v := .int (z.1 15 0)) (C := RX11) (T := TX11) (N := 41) hx hb hts iw_X11_test_X11 hown hK.1 hP 0 rfl rfl 15 (by decide) fl153 (fun _ h9 => h9) rfl dX11_test_91 ?_
            refine lv_bipush (v := 13) hx hb dX11_test_94 (by decide) ?_
            refine lv_icmp_eq (tgt := 117) hx hb dX11_test_96 (by decide) (fun c20 => ?_) (fun c20 => ?_)
            · have hf := (if_pos c20).symm.trans hf
              exact w_X11_test_117 C0 N (f_X11_test_12 N n) ih _ hf _ _ _ hP hD hS (lv_sub hl [0] rfl)
            · have hf := (if_neg c20).symm.trans hf
              refine lv_aload_n hx hb dX11_test_99 rfl (lv_at hl 0 rfl) ?_
              refine va_get (D := (dC, dI)) (ci := 11) (v := .int (z.1 15 0)) (C := RX11) (T := TX11) (N := 41) hx hb hts iw_X11_test_X11 hown hK.1 hP 0 rfl rfl 15 (by decide) fl153 (fun _ h9 => h9) rfl dX11_test_100 ?_
              refine lv_bipush (v := 17) hx hb dX11_test_103 (by decide) ?_
              refine lv_icmp_eq (tgt := 117) hx hb dX11_test_105 (by decide) (fun c21 => ?_) (fun c21 => ?_)
              · have hf := (if_pos c21).symm.trans hf
                exact w_X11_test_117 C0 N (f_X11_test_12 N n) ih _ hf _ _ _ hP hD hS (lv_sub hl [0] rfl)
              · have hf := (if_neg c21).symm.trans hf
                refine lv_aload_n hx hb dX11_test_108 rfl (lv_at hl 0 rfl) ?_
                refine va_get (D := (dC, dI)) (ci := 11) (v := .int (z.1 15 0)) (C := RX11) (T := TX11) (N := 41) hx hb hts iw_X11_test_X11 hown hK.1 hP 0 rfl rfl 15 (by decide) fl153 (fun _ h9 => h9) rfl dX11_test_109 ?_
                refine lv_bipush (v := 18) hx hb dX11_test_112 (by decide) ?_
                refine lv_icmp_ne (tgt := 152) hx hb dX11_test_114 (by decide) (fun c22 => ?_) (fun c22 => ?_)
                · have hf := (if_neg c22).symm.trans hf
                  refine lv_iconst (v := (-1)) hx hb dX11_test_152 (by decide) ?_
                  exact ql_iret C0 hf hP hD hS dX11_test_153
                · have hf := (if_pos c22).symm.trans hf
                  exact w_X11_test_117 C0 N (f_X11_test_12 N n) ih _ hf _ _ _ hP hD hS (lv_sub hl [0] rfl)
        · have hf := (if_pos c18).symm.trans hf
          exact w_X11_test_34 C0 N (f_X11_test_12 N n) ih _ _ hf _ _ _ hP hD hS (lv_sub hl [0, 1] rfl)
set_option maxHeartbeats 4000000 in
set_option maxRecDepth 100000 in
theorem w_X11_test_0 {p : Program} {l : Launch} {e : Env} {s : State} {m : MethodId} {args : Array Value} {below : List Frame} {meth : Method} {c : Code} {dC : Nat → ClassId} {dI : Nat → Nat → Nat} {A : Nat → Prop} {h : Nat} {ad : Nat → Nat} {cI cZ cJ : ClassId} {res : Int32 × ql_Z} (C0 : ql_C p s m args meth c cX11_test 2 (some .int) wsX11_test RX11 (dC, dI) [(cI, .int), (cZ, .boolean), (cJ, .long)] A) (N : Nat) : ∀ (z : ql_Z), f_X11_test_0 N z = some res → ∀ (H : Heap) (locs : List Loc) (ls : Array Slot), va_P (dC, dI) vwCl ((ql_mw h ad cI cZ cJ) z) H → va_D A ((ql_mw h ad cI cZ cJ) z) → va_S A s.heap H locs → lv_has ls 2 [(0, .ref h)] → W p l e rm_X11_test s m args below meth c H locs 0 0 (ql_Qi below (dC, dI) (ql_mw h ad cI cZ cJ) A args s res) (F0 m 0 ls []) := by
  have C0q := C0
  obtain ⟨hx, hb, hr, hml, hown, hts, hlocks, hK, hA⟩ := C0q
  have fl170 := hts (Cond.fieldLink RX11 170 "TestedLoopsModel" "valMany" "I") (by decide +kernel)
  have fl167 := hts (Cond.fieldLink RX11 167 "TestedLoopsModel" "waitMany" "I") (by decide +kernel)
  intro z hf H locs ls hP hD hS hl
  unfold f_X11_test_0 at hf
  refine lv_aload_n hx hb dX11_test_0 rfl (lv_at hl 0 rfl) ?_
  refine lv_iconst (v := 0) hx hb dX11_test_1 (by decide) ?_
  refine va_put (D := (dC, dI)) (ci := 11) (v := .int 0) (ty := .int) (C := RX11) (T := TX11) (N := 41) hx hb hts iw_X11_test_X11 tyX11 tyX11_ok nmX11 hown hK.1 hP hD hS 0 rfl rfl 19 (by decide) fl170 (fun _ h9 => h9) rfl (by decide +kernel) rfl rfl (Nat.le_of_ble_eq_true rfl) dX11_test_2 (fun H locs hP hD hS => ?_)
  refine lv_aload_n hx hb dX11_test_5 rfl (lv_at hl 0 rfl) ?_
  refine lv_iconst (v := 0) hx hb dX11_test_6 (by decide) ?_
  refine va_put (D := (dC, dI)) (ci := 11) (v := .int 0) (ty := .int) (C := RX11) (T := TX11) (N := 41) hx hb hts iw_X11_test_X11 tyX11 tyX11_ok nmX11 hown hK.1 hP hD hS 0 rfl rfl 20 (by decide) fl167 (fun _ h9 => h9) rfl (by decide +kernel) rfl rfl (Nat.le_of_ble_eq_true rfl) dX11_test_7 (fun H locs hP hD hS => ?_)
  refine lv_iconst (v := 1) hx hb dX11_test_10 (by decide) ?_
  refine lv_istore_n (lv' := [(1, .int 1), (0, .ref h)]) hx hb dX11_test_11 rfl hl (by decide) rfl (fun ls hl => ?_)
  exact w_X11_test_12 C0 N N _ _ hf _ _ _ hP hD hS (lv_sub hl [1, 0] rfl)
set_option maxRecDepth 100000 in
theorem c_X11_test (l : Launch) (dC : Nat → ClassId) (dI : Nat → Nat → Nat) (h : Nat) (ad : Nat → Nat) (cI cZ cJ : ClassId) (N : Nat) (z : ql_Z) (res : Int32 × ql_Z) (hf : f_X11_test N z = some res) : ql_Mi l yX11_test wsX11_test rm_X11_test (dC, dI) [(cI, .int), (cZ, .boolean), (cJ, .long)] (ql_mw h ad cI cZ cJ) [.ref h] z res :=
  ql_start_i (by decide) rfl (Nat.le_of_ble_eq_true rfl) (fun p e s m below meth c A ls C0 hl hP hD hS => w_X11_test_0 C0 N z hf s.heap [] ls hP hD hS (lv_sub (show lv_has ls 2 [(0, .ref h)] from hl) [0] rfl))
