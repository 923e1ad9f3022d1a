/-! ===== TestedLoopsModel.surveys(I)V ===== -/
abbrev rm_X11_surveys : Room := { frames := 1, cells := 0, slots := 0, locals := 23 }
theorem iw_X11_surveys_X11 : ∀ w ∈ wsX110, w ∈ wsX11_surveys := fun w h => List.mem_cons_of_mem _ (List.mem_append_right _ h)
theorem qv_X11_surveys : yX11_surveys.cls = RX11 ∧ yX11_surveys.cls ≠ "java/lang/invoke/MethodHandle" ∧ yX11_surveys.cls ≠ "java/lang/invoke/VarHandle" ∧ (parseMethodDescriptor yX11_surveys.desc).map (fun d => d.parameters.length) = some 1 := by decide +kernel
def f_X11_surveys_122 (N : Nat) (k12 : ql_Z → Int32 → Int32 → Option (ql_Z)) (k24 : ql_Z → Int32 → Int32 → Int32 → Option (ql_Z)) (k37 : ql_Z → Int32 → Int32 → Int32 → Int32 → Option (ql_Z)) (z : ql_Z) (x1 : Int32) (x2 : Int32) (x3 : Int32) (x4 : Int32) (y0 : Int32) (y1 : Int32) : Option (ql_Z) := k37 ((ql_up z.1 33 (fun _ => (y1 ||| y0))), z.2) x1 x2 x3 (x4 + 1)
def f_X11_surveys_115 (N : Nat) (k12 : ql_Z → Int32 → Int32 → Option (ql_Z)) (k24 : ql_Z → Int32 → Int32 → Int32 → Option (ql_Z)) (k37 : ql_Z → Int32 → Int32 → Int32 → Int32 → Option (ql_Z)) (z : ql_Z) (x1 : Int32) (x2 : Int32) (x3 : Int32) (x4 : Int32) (y0 : Int32) : Option (ql_Z) := f_X11_surveys_122 N k12 k24 k37 z x1 x2 x3 x4 ((1 : Int32) <<< (x3 &&& 31)) y0
def f_X11_surveys_121 (N : Nat) (k12 : ql_Z → Int32 → Int32 → Option (ql_Z)) (k24 : ql_Z → Int32 → Int32 → Int32 → Option (ql_Z)) (k37 : ql_Z → Int32 → Int32 → Int32 → Int32 → Option (ql_Z)) (z : ql_Z) (x1 : Int32) (x2 : Int32) (x3 : Int32) (x4 : Int32) (y0 : Int32) : Option (ql_Z) := f_X11_surveys_122 N k12 k24 k37 z x1 x2 x3 x4 0 y0
def f_X11_surveys_83 (N : Nat) (k12 : ql_Z → Int32 → Int32 → Option (ql_Z)) (k24 : ql_Z → Int32 → Int32 → Int32 → Option (ql_Z)) (k37 : ql_Z → Int32 → Int32 → Int32 → Int32 → Option (ql_Z)) (z : ql_Z) (x1 : Int32) (x2 : Int32) (x3 : Int32) (x4 : Int32) (x5 : Int32) (y0 : Int32) (y1 : Int32) : Option (ql_Z) := if x5 = 0 then f_X11_surveys_115 N k12 k24 k37 ((ql_up z.1 32 (fun _ => (y1 ||| y0))), z.2) x1 x2 x3 x4 (z.1 33 0) else if x5 ≤ 0 then f_X11_surveys_121 N k12 k24 k37 ((ql_up z.1 32 (fun _ => (y1 ||| y0))), z.2) x1 x2 x3 x4 (z.1 33 0) else if (((z.1 33 0) >>> (x5 &&& 31)) &&& 1) = 1 then f_X11_surveys_115 N k12 k24 k37 ((ql_up z.1 32 (fun _ => (y1 ||| y0))), z.2) x1 x2 x3 x4 (z.1 33 0) else f_X11_surveys_121 N k12 k24 k37 ((ql_up z.1 32 (fun _ => (y1 ||| y0))), z.2) x1 x2 x3 x4 (z.1 33 0)
def f_X11_surveys_82 (N : Nat) (k12 : ql_Z → Int32 → Int32 → Option (ql_Z)) (k24 : ql_Z → Int32 → Int32 → Int32 → Option (ql_Z)) (k37 : ql_Z → Int32 → Int32 → Int32 → Int32 → Option (ql_Z)) (z : ql_Z) (x1 : Int32) (x2 : Int32) (x3 : Int32) (x4 : Int32) (x5 : Int32) (y0 : Int32) : Option (ql_Z) := f_X11_surveys_83 N k12 k24 k37 z x1 x2 x3 x4 x5 0 y0
def f_X11_surveys_37 (N : Nat) (k12 : ql_Z → Int32 → Int32 → Option (ql_Z)) (k24 : ql_Z → Int32 → Int32 → Int32 → Option (ql_Z)) : Nat → ql_Z → Int32 → Int32 → Int32 → Int32 → Option (ql_Z)
  | 0, _, _, _, _, _ => none
  | n + 1, z, x1, x2, x3, x4 => if 4 ≤ x4 then k24 z x1 x2 (x3 + 1) else (f_X11_to N z x1 x3 x4).bind fun u5 => if (((z.1 32 0) >>> (x3 &&& 31)) &&& 1) = 1 then if u5 ≤ 0 then f_X11_surveys_82 N k12 k24 (f_X11_surveys_37 N k12 k24 n) z x1 x2 x3 x4 u5 (z.1 32 0) else f_X11_surveys_83 N k12 k24 (f_X11_surveys_37 N k12 k24 n) z x1 x2 x3 x4 u5 ((1 : Int32) <<< (u5 &&& 31)) (z.1 32 0) else f_X11_surveys_82 N k12 k24 (f_X11_surveys_37 N k12 k24 n) z x1 x2 x3 x4 u5 (z.1 32 0)
def f_X11_surveys_24 (N : Nat) (k12 : ql_Z → Int32 → Int32 → Option (ql_Z)) : Nat → ql_Z → Int32 → Int32 → Int32 → Option (ql_Z)
  | 0, _, _, _, _ => none
  | n + 1, z, x1, x2, x3 => if ql_ib x1 5 = true then if ((z.1 9) x1.toNatClampNeg) < x3 then k12 z x1 (x2 + 1) else f_X11_surveys_37 N k12 (f_X11_surveys_24 N k12 n) N z x1 x2 x3 0 else none
def f_X11_surveys_12 (N : Nat) : Nat → ql_Z → Int32 → Int32 → Option (ql_Z)
  | 0, _, _, _ => none
  | n + 1, z, x1, x2 => if ql_ib x1 5 = true then if ((z.1 9) x1.toNatClampNeg) < x2 then some z else f_X11_surveys_24 N (f_X11_surveys_12 N n) N z x1 x2 0 else none
def f_X11_surveys_0 (N : Nat) (z : ql_Z) (x1 : Int32) : Option (ql_Z) := f_X11_surveys_12 N N ((ql_up (ql_up z.1 32 (fun _ => 1)) 33 (fun _ => 0)), z.2) x1 0
def f_X11_surveys (N : Nat) (z : ql_Z) (x1 : Int32) : Option (ql_Z) := f_X11_surveys_0 N z x1
set_option maxHeartbeats 4000000 in
set_option maxRecDepth 100000 in
theorem w_X11_surveys_122 {p : Program} {l : Launch} {e : Env} {s : State} {m : MethodId} {args : Array Value} {below : List Frame} {meth : Method} {c : Code} {dC : Nat → ClassId} {dI : Nat → Nat → Nat} {A : Nat → Prop} {h : Nat} {ad : Nat → Nat} {cI cZ cJ : ClassId} {res : ql_Z} (C0 : ql_C p s m args meth c cX11_surveys 6 none wsX11_surveys RX11 (dC, dI) [(cI, .int), (cZ, .boolean), (cJ, .long)] A) (N : Nat) (k12 : ql_Z → Int32 → Int32 → Option (ql_Z)) (hk12 : ∀ (z : ql_Z) (x1 : Int32) (x2 : Int32), k12 z x1 x2 = some res → ∀ (H : Heap) (locs : List Loc) (ls : Array Slot), va_P (dC, dI) vwCl ((ql_mw h ad cI cZ cJ) z) H → va_D A ((ql_mw h ad cI cZ cJ) z) → va_S A s.heap H locs → lv_has ls 6 [(0, .ref h), (1, .int x1), (2, .int x2)] → W p l e rm_X11_surveys s m args below meth c H locs 0 0 (ql_Qv below (dC, dI) (ql_mw h ad cI cZ cJ) A args s res) (F0 m 12 ls [])) (k24 : ql_Z → Int32 → Int32 → Int32 → Option (ql_Z)) (hk24 : ∀ (z : ql_Z) (x1 : Int32) (x2 : Int32) (x3 : Int32), k24 z x1 x2 x3 = some res → ∀ (H : Heap) (locs : List Loc) (ls : Array Slot), va_P (dC, dI) vwCl ((ql_mw h ad cI cZ cJ) z) H → va_D A ((ql_mw h ad cI cZ cJ) z) → va_S A s.heap H locs → lv_has ls 6 [(0, .ref h), (1, .int x1), (2, .int x2), (3, .int x3)] → W p l e rm_X11_surveys s m args below meth c H locs 0 0 (ql_Qv below (dC, dI) (ql_mw h ad cI cZ cJ) A args s res) (F0 m 24 ls [])) (k37 : ql_Z → Int32 → Int32 → Int32 → Int32 → Option (ql_Z)) (hk37 : ∀ (z : ql_Z) (x1 : Int32) (x2 : Int32) (x3 : Int32) (x4 : Int32), k37 z x1 x2 x3 x4 = some res → ∀ (H : Heap) (locs : List Loc) (ls : Array Slot), va_P (dC, dI) vwCl ((ql_mw h ad cI cZ cJ) z) H → va_D A ((ql_mw h ad cI cZ cJ) z) → va_S A s.heap H locs → lv_has ls 6 [(0, .ref h), (1, .int x1), (2, .int x2), (3, .int x3), (4, .int x4)] → W p l e rm_X11_surveys s m args below meth c H locs 0 0 (ql_Qv below (dC, dI) (ql_mw h ad cI cZ cJ) A args s res) (F0 m 37 ls [])) : ∀ (z : ql_Z) (x1 : Int32) (x2 : Int32) (x3 : Int32) (x4 : Int32) (y0 : Int32) (y1 : Int32), f_X11_surveys_122 N k12 k24 k37 z x1 x2 x3 x4 y0 y1 = some res → ∀ (H : Heap) (locs : List Loc) (ls : Array Slot), va_P (dC, dI) vwCl ((ql_mw h ad cI cZ cJ) z) H → va_D A ((ql_mw h ad cI cZ cJ) z) → va_S A s.heap H locs → lv_has ls 6 [(0, .ref h), (1, .int x1), (2, .int x2), (3, .int x3), (4, .int x4)] → W p l e rm_X11_surveys s m args below meth c H locs 0 0 (ql_Qv below (dC, dI) (ql_mw h ad cI cZ cJ) A args s res) (F0 m 122 ls [.int y0, .int y1, .ref h]) := by
  have C0q := C0
  obtain ⟨hx, hb, hr, hml, hown, hts, hlocks, hK, hA⟩ := C0q
  have fl272 := hts (Cond.fieldLink RX11 272 "TestedLoopsModel" "liveSet" "I") (by decide +kernel)
  intro z x1 x2 x3 x4 y0 y1 hf H locs ls hP hD hS hl
  unfold f_X11_surveys_122 at hf
  refine lv_ior hx hb dX11_surveys_122 ?_
  refine va_put (D := (dC, dI)) (ci := 11) (v := .int (y1 ||| y0)) (ty := .int) (C := RX11) (T := TX11) (N := 41) hx hb hts iw_X11_surveys_X11 tyX11 tyX11_ok nmX11 hown hK.1 hP hD hS 0 rfl rfl 33 (by decide) fl272 (fun _ h9 => h9) rfl (by decide +kernel) rfl rfl (Nat.le_of_ble_eq_true rfl) dX11_surveys_123 (fun H locs hP hD hS => ?_)
  refine lv_iinc (v := (x4 + 1)) (lv' := [(4, .int (x4 + 1)), (0, .ref h), (1, .int x1), (2, .int x2), (3, .int x3)]) hx hb dX11_surveys_126 hl (k := 4) rfl rfl (by decide) rfl (fun ls hl => ?_)
  refine lv_goto (tgt := 37) hx hb dX11_surveys_129 (by decide) ?_
  exact hk37 _ _ _ _ _ hf _ _ _ hP hD hS (lv_sub hl [1, 2, 3, 4, 0] rfl)
set_option maxHeartbeats 4000000 in
set_option maxRecDepth 100000 in
theorem w_X11_surveys_115 {p : Program} {l : Launch} {e : Env} {s : State} {m : MethodId} {args : Array Value} {below : List Frame} {meth : Method} {c : Code} {dC : Nat → ClassId} {dI : Nat → Nat → Nat} {A : Nat → Prop} {h : Nat} {ad : Nat → Nat} {cI cZ cJ : ClassId} {res : ql_Z} (C0 : ql_C p s m args meth c cX11_surveys 6 none wsX11_surveys RX11 (dC, dI) [(cI, .int), (cZ, .boolean), (cJ, .long)] A) (N : Nat) (k12 : ql_Z → Int32 → Int32 → Option (ql_Z)) (hk12 : ∀ (z : ql_Z) (x1 : Int32) (x2 : Int32), k12 z x1 x2 = some res → ∀ (H : Heap) (locs : List Loc) (ls : Array Slot), va_P (dC, dI) vwCl ((ql_mw h ad cI cZ cJ) z) H → va_D A ((ql_mw h ad cI cZ cJ) z) → va_S A s.heap H locs → lv_has ls 6 [(0, .ref h), (1, .int x1), (2, .int x2)] → W p l e rm_X11_surveys s m args below meth c H locs 0 0 (ql_Qv below (dC, dI) (ql_mw h ad cI cZ cJ) A args s res) (F0 m 12 ls [])) (k24 : ql_Z → Int32 → Int32 → Int32 → Option (ql_Z)) (hk24 : ∀ (z : ql_Z) (x1 : Int32) (x2 : Int32) (x3 : Int32), k24 z x1 x2 x3 = some res → ∀ (H : Heap) (locs : List Loc) (ls : Array Slot), va_P (dC, dI) vwCl ((ql_mw h ad cI cZ cJ) z) H → va_D A ((ql_mw h ad cI cZ cJ) z) → va_S A s.heap H locs → lv_has ls 6 [(0, .ref h), (1, .int x1), (2, .int x2), (3, .int x3)] → W p l e rm_X11_surveys s m args below meth c H locs 0 0 (ql_Qv below (dC, dI) (ql_mw h ad cI cZ cJ) A args s res) (F0 m 24 ls [])) (k37 : ql_Z → Int32 → Int32 → Int32 → Int32 → Option (ql_Z)) (hk37 : ∀ (z : ql_Z) (x1 : Int32) (x2 : Int32) (x3 : Int32) (x4 : Int32), k37 z x1 x2 x3 x4 = some res → ∀ (H : Heap) (locs : List Loc) (ls : Array Slot), va_P (dC, dI) vwCl ((ql_mw h ad cI cZ cJ) z) H → va_D A ((ql_mw h ad cI cZ cJ) z) → va_S A s.heap H locs → lv_has ls 6 [(0, .ref h), (1, .int x1), (2, .int x2), (3, .int x3), (4, .int x4)] → W p l e rm_X11_surveys s m args below meth c H locs 0 0 (ql_Qv below (dC, dI) (ql_mw h ad cI cZ cJ) A args s res) (F0 m 37 ls [])) : ∀ (z : ql_Z) (x1 : Int32) (x2 : Int32) (x3 : Int32) (x4 : Int32) (y0 : Int32), f_X11_surveys_115 N k12 k24 k37 z x1 x2 x3 x4 y0 = some res → ∀ (H : Heap) (locs : List Loc) (ls : Array Slot), va_P (dC, dI) vwCl ((ql_mw h ad cI cZ cJ) z) H → va_D A ((ql_mw h ad cI cZ cJ) z) → va_S A s.heap H locs → lv_has ls 6 [(0, .ref h), (1, .int x1), (2, .int x2), (3, .int x3), (4, .int x4)] → W p l e rm_X11_surveys s m args below meth c H locs 0 0 (ql_Qv below (dC, dI) (ql_mw h ad cI cZ cJ) A args s res) (F0 m 115 ls [.int y0, .ref h]) := by
  have C0q := C0
  obtain ⟨hx, hb, hr, hml, hown, hts, hlocks, hK, hA⟩ := C0q
  intro z x1 x2 x3 x4 y0 hf H locs ls hP hD hS hl
  unfold f_X11_surveys_115 at hf
  refine lv_iconst (v := 1) hx hb dX11_surveys_115 (by decide) ?_
  refine lv_iload_n hx hb dX11_surveys_116 rfl (lv_at hl 3 rfl) ?_
  refine lv_ishl hx hb dX11_surveys_117 ?_
  refine lv_goto (tgt := 122) hx hb dX11_surveys_118 (by decide) ?_
  exact w_X11_surveys_122 C0 N k12 hk12 k24 hk24 k37 hk37 _ _ _ _ _ _ _ hf _ _ _ hP hD hS (lv_sub hl [0, 1, 2, 3, 4] rfl)
set_option maxHeartbeats 4000000 in
set_option maxRecDepth 100000 in
theorem w_X11_surveys_121 {p : Program} {l : Launch} {e : Env} {s : State} {m : MethodId} {args : Array Value} {below : List Frame} {meth : Method} {c : Code} {dC : Nat → ClassId} {dI : Nat → Nat → Nat} {A : Nat → Prop} {h : Nat} {ad : Nat → Nat} {cI cZ cJ : ClassId} {res : ql_Z} (C0 : ql_C p s m args meth c cX11_surveys 6 none wsX11_surveys RX11 (dC, dI) [(cI, .int), (cZ, .boolean), (cJ, .long)] A) (N : Nat) (k12 : ql_Z → Int32 → Int32 → Option (ql_Z)) (hk12 : ∀ (z : ql_Z) (x1 : Int32) (x2 : Int32), k12 z x1 x2 = some res → ∀ (H : Heap) (locs : List Loc) (ls : Array Slot), va_P (dC, dI) vwCl ((ql_mw h ad cI cZ cJ) z) H → va_D A ((ql_mw h ad cI cZ cJ) z) → va_S A s.heap H locs → lv_has ls 6 [(0, .ref h), (1, .int x1), (2, .int x2)] → W p l e rm_X11_surveys s m args below meth c H locs 0 0 (ql_Qv below (dC, dI) (ql_mw h ad cI cZ cJ) A args s res) (F0 m 12 ls [])) (k24 : ql_Z → Int32 → Int32 → Int32 → Option (ql_Z)) (hk24 : ∀ (z : ql_Z) (x1 : Int32) (x2 : Int32) (x3 : Int32), k24 z x1 x2 x3 = some res → ∀ (H : Heap) (locs : List Loc) (ls : Array Slot), va_P (dC, dI) vwCl ((ql_mw h ad cI cZ cJ) z) H → va_D A ((ql_mw h ad cI cZ cJ) z) → va_S A s.heap H locs → lv_has ls 6 [(0, .ref h), (1, .int x1), (2, .int x2), (3, .int x3)] → W p l e rm_X11_surveys s m args below meth c H locs 0 0 (ql_Qv below (dC, dI) (ql_mw h ad cI cZ cJ) A args s res) (F0 m 24 ls [])) (k37 : ql_Z → Int32 → Int32 → Int32 → Int32 → Option (ql_Z)) (hk37 : ∀ (z : ql_Z) (x1 : Int32) (x2 : Int32) (x3 : Int32) (x4 : Int32), k37 z x1 x2 x3 x4 = some res → ∀ (H : Heap) (locs : List Loc) (ls : Array Slot), va_P (dC, dI) vwCl ((ql_mw h ad cI cZ cJ) z) H → va_D A ((ql_mw h ad cI cZ cJ) z) → va_S A s.heap H locs → lv_has ls 6 [(0, .ref h), (1, .int x1), (2, .int x2), (3, .int x3), (4, .int x4)] → W p l e rm_X11_surveys s m args below meth c H locs 0 0 (ql_Qv below (dC, dI) (ql_mw h ad cI cZ cJ) A args s res) (F0 m 37 ls [])) : ∀ (z : ql_Z) (x1 : Int32) (x2 : Int32) (x3 : Int32) (x4 : Int32) (y0 : Int32), f_X11_surveys_121 N k12 k24 k37 z x1 x2 x3 x4 y0 = some res → ∀ (H : Heap) (locs : List Loc) (ls : Array Slot), va_P (dC, dI) vwCl ((ql_mw h ad cI cZ cJ) z) H → va_D A ((ql_mw h ad cI cZ cJ) z) → va_S A s.heap H locs → lv_has ls 6 [(0, .ref h), (1, .int x1), (2, .int x2), (3, .int x3), (4, .int x4)] → W p l e rm_X11_surveys s m args below meth c H locs 0 0 (ql_Qv below (dC, dI) (ql_mw h ad cI cZ cJ) A args s res) (F0 m 121 ls [.int y0, .ref h]) := by
  have C0q := C0
  obtain ⟨hx, hb, hr, hml, hown, hts, hlocks, hK, hA⟩ := C0q
  intro z x1 x2 x3 x4 y0 hf H locs ls hP hD hS hl
  unfold f_X11_surveys_121 at hf
  refine lv_iconst (v := 0) hx hb dX11_surveys_121 (by decide) ?_
  exact w_X11_surveys_122 C0 N k12 hk12 k24 hk24 k37 hk37 _ _ _ _ _ _ _ hf _ _ _ hP hD hS (lv_sub hl [0, 1, 2, 3, 4] rfl)
set_option maxHeartbeats 4000000 in
set_option maxRecDepth 100000 in
theorem w_X11_surveys_83 {p : Program} {l : Launch} {e : Env} {s : State} {m : MethodId} {args : Array Value} {below : List Frame} {meth : Method} {c : Code} {dC : Nat → ClassId} {dI : Nat → Nat → Nat} {A : Nat → Prop} {h : Nat} {ad : Nat → Nat} {cI cZ cJ : ClassId} {res : ql_Z} (C0 : ql_C p s m args meth c cX11_surveys 6 none wsX11_surveys RX11 (dC, dI) [(cI, .int), (cZ, .boolean), (cJ, .long)] A) (N : Nat) (k12 : ql_Z → Int32 → Int32 → Option (ql_Z)) (hk12 : ∀ (z : ql_Z) (x1 : Int32) (x2 : Int32), k12 z x1 x2 = some res → ∀ (H : Heap) (locs : List Loc) (ls : Array Slot), va_P (dC, dI) vwCl ((ql_mw h ad cI cZ cJ) z) H → va_D A ((ql_mw h ad cI cZ cJ) z) → va_S A s.heap H locs → lv_has ls 6 [(0, .ref h), (1, .int x1), (2, .int x2)] → W p l e rm_X11_surveys s m args below meth c H locs 0 0 (ql_Qv below (dC, dI) (ql_mw h ad cI cZ cJ) A args s res) (F0 m 12 ls [])) (k24 : ql_Z → Int32 → Int32 → Int32 → Option (ql_Z)) (hk24 : ∀ (z : ql_Z) (x1 : Int32) (x2 : Int32) (x3 : Int32), k24 z x1 x2 x3 = some res → ∀ (H : Heap) (locs : List Loc) (ls : Array Slot), va_P (dC, dI) vwCl ((ql_mw h ad cI cZ cJ) z) H → va_D A ((ql_mw h ad cI cZ cJ) z) → va_S A s.heap H locs → lv_has ls 6 [(0, .ref h), (1, .int x1), (2, .int x2), (3, .int x3)] → W p l e rm_X11_surveys s m args below meth c H locs 0 0 (ql_Qv below (dC, dI) (ql_mw h ad cI cZ cJ) A args s res) (F0 m 24 ls [])) (k37 : ql_Z → Int32 → Int32 → Int32 → Int32 → Option (ql_Z)) (hk37 : ∀ (z : ql_Z) (x1 : Int32) (x2 : Int32) (x3 : Int32) (x4 : Int32), k37 z x1 x2 x3 x4 = some res → ∀ (H : Heap) (locs : List Loc) (ls : Array Slot), va_P (dC, dI) vwCl ((ql_mw h ad cI cZ cJ) z) H → va_D A ((ql_mw h ad cI cZ cJ) z) → va_S A s.heap H locs → lv_has ls 6 [(0, .ref h), (1, .int x1), (2, .int x2), (3, .int x3), (4, .int x4)] → W p l e rm_X11_surveys s m args below meth c H locs 0 0 (ql_Qv below (dC, dI) (ql_mw h ad cI cZ cJ) A args s res) (F0 m 37 ls [])) : ∀ (z : ql_Z) (x1 : Int32) (x2 : Int32) (x3 : Int32) (x4 : Int32) (x5 : Int32) (y0 : Int32) (y1 : Int32), f_X11_surveys_83 N k12 k24 k37 z x1 x2 x3 x4 x5 y0 y1 = some res → ∀ (H : Heap) (locs : List Loc) (ls : Array Slot), va_P (dC, dI) vwCl ((ql_mw h ad cI cZ cJ) z) H → va_D A ((ql_mw h ad cI cZ cJ) z) → va_S A s.heap H locs → lv_has ls 6 [(0, .ref h), (1, .int x1), (2, .int x2), (3, .int x3), (4, .int x4), (5, .int x5)] → W p l e rm_X11_surveys s m args below meth c H locs 0 0 (ql_Qv below (dC, dI) (ql_mw h ad cI cZ cJ) A args s res) (F0 m 83 ls [.int y0, .int y1, .ref h]) := by
  have C0q := C0
  obtain ⟨hx, hb, hr, hml, hown, hts, hlocks, hK, hA⟩ := C0q
  have fl269 := hts (Cond.fieldLink RX11 269 "TestedLoopsModel" "reachSet" "I") (by decide +kernel)
  have fl272 := hts (Cond.fieldLink RX11 272 "TestedLoopsModel" "liveSet" "I") (by decide +kernel)
  intro z x1 x2 x3 x4 x5 y0 y1 hf H locs ls hP hD hS hl
  unfold f_X11_surveys_83 at hf
  refine lv_ior hx hb dX11_surveys_83 ?_
  refine va_put (D := (dC, dI)) (ci := 11) (v := .int (y1 ||| y0)) (ty := .int) (C := RX11) (T := TX11) (N := 41) hx hb hts iw_X11_surveys_X11 tyX11 tyX11_ok nmX11 hown hK.1 hP hD hS 0 rfl rfl 32 (by decide) fl269 (fun _ h9 => h9) rfl (by decide +kernel) rfl rfl (Nat.le_of_ble_eq_true rfl) dX11_surveys_84 (fun H locs hP hD hS => ?_)
  refine lv_aload_n hx hb dX11_surveys_87 rfl (lv_at hl 0 rfl) ?_
  refine lv_dup hx hb dX11_surveys_88 rfl ?_
  refine va_get (D := (dC, dI)) (ci := 11) (v := .int (z.1 33 0)) (C := RX11) (T := TX11) (N := 41) hx hb hts iw_X11_surveys_X11 hown hK.1 hP 0 rfl rfl 33 (by decide) fl272 (fun _ h9 => h9) rfl dX11_surveys_89 ?_
  refine lv_iload hx hb dX11_surveys_92 (lv_at hl 5 rfl) ?_
  refine lv_if_eq (tgt := 115) hx hb dX11_surveys_94 (by decide) (fun c1 => ?_) (fun c1 => ?_)
  · have hf := (if_pos c1).symm.trans hf
    exact w_X11_surveys_115 C0 N k12 hk12 k24 hk24 k37 hk37 _ _ _ _ _ _ hf _ _ _ hP hD hS (lv_sub hl [0, 1, 2, 3, 4] rfl)
  · have hf := (if_neg c1).symm.trans hf
    refine lv_iload hx hb dX11_surveys_97 (lv_at hl 5 rfl) ?_
    refine lv_if_le (tgt := 121) hx hb dX11_surveys_99 (by decide) (fun c2 => ?_) (fun c2 => ?_)
    · have hf := (if_pos c2).symm.trans hf
      exact w_X11_surveys_121 C0 N k12 hk12 k24 hk24 k37 hk37 _ _ _ _ _ _ hf _ _ _ hP hD hS (lv_sub hl [0, 1, 2, 3, 4] rfl)
    · have hf := (if_neg c2).symm.trans hf
      refine lv_aload_n hx hb dX11_surveys_102 rfl (lv_at hl 0 rfl) ?_
      refine va_get (D := (dC, dI)) (ci := 11) (v := .int (z.1 33 0)) (C := RX11) (T := TX11) (N := 41) hx hb hts iw_X11_surveys_X11 hown hK.1 hP 0 rfl rfl 33 (by decide) fl272 (fun _ h9 => h9) rfl dX11_surveys_103 ?_
      refine lv_iload hx hb dX11_surveys_106 (lv_at hl 5 rfl) ?_
      refine lv_ishr hx hb dX11_surveys_108 ?_
      refine lv_iconst (v := 1) hx hb dX11_surveys_109 (by decide) ?_
      refine lv_iand hx hb dX11_surveys_110 ?_
      refine lv_iconst (v := 1) hx hb dX11_surveys_111 (by decide) ?_
      refine lv_icmp_ne (tgt := 121) hx hb dX11_surveys_112 (by decide) (fun c3 => ?_) (fun c3 => ?_)
      · have hf := (if_neg c3).symm.trans hf
        exact w_X11_surveys_121 C0 N k12 hk12 k24 hk24 k37 hk37 _ _ _ _ _ _ hf _ _ _ hP hD hS (lv_sub hl [0, 1, 2, 3, 4] rfl)
      · have hf := (if_pos c3).symm.trans hf
        exact w_X11_surveys_115 C0 N k12 hk12 k24 hk24 k37 hk37 _ _ _ _ _ _ hf _ _ _ hP hD hS (lv_sub hl [0, 1, 2, 3, 4] rfl)
set_option maxHeartbeats 4000000 in
set_option maxRecDepth 100000 in
theorem w_X11_surveys_82 {p : Program} {l : Launch} {e : Env} {s : State} {m : MethodId} {args : Array Value} {below : List Frame} {meth : Method} {c : Code} {dC : Nat → ClassId} {dI : Nat → Nat → Nat} {A : Nat → Prop} {h : Nat} {ad : Nat → Nat} {cI cZ cJ : ClassId} {res : ql_Z} (C0 : ql_C p s m args meth c cX11_surveys 6 none wsX11_surveys RX11 (dC, dI) [(cI, .int), (cZ, .boolean), (cJ, .long)] A) (N : Nat) (k12 : ql_Z → Int32 → Int32 → Option (ql_Z)) (hk12 : ∀ (z : ql_Z) (x1 : Int32) (x2 : Int32), k12 z x1 x2 = some res → ∀ (H : Heap) (locs : List Loc) (ls : Array Slot), va_P (dC, dI) vwCl ((ql_mw h ad cI cZ cJ) z) H → va_D A ((ql_mw h ad cI cZ cJ) z) → va_S A s.heap H locs → lv_has ls 6 [(0, .ref h), (1, .int x1), (2, .int x2)] → W p l e rm_X11_surveys s m args below meth c H locs 0 0 (ql_Qv below (dC, dI) (ql_mw h ad cI cZ cJ) A args s res) (F0 m 12 ls [])) (k24 : ql_Z → Int32 → Int32 → Int32 → Option (ql_Z)) (hk24 : ∀ (z : ql_Z) (x1 : Int32) (x2 : Int32) (x3 : Int32), k24 z x1 x2 x3 = some res → ∀ (H : Heap) (locs : List Loc) (ls : Array Slot), va_P (dC, dI) vwCl ((ql_mw h ad cI cZ cJ) z) H → va_D A ((ql_mw h ad cI cZ cJ) z) → va_S A s.heap H locs → lv_has ls 6 [(0, .ref h), (1, .int x1), (2, .int x2), (3, .int x3)] → W p l e rm_X11_surveys s m args below meth c H locs 0 0 (ql_Qv below (dC, dI) (ql_mw h ad cI cZ cJ) A args s res) (F0 m 24 ls [])) (k37 : ql_Z → Int32 → Int32 → Int32 → Int32 → Option (ql_Z)) (hk37 : ∀ (z : ql_Z) (x1 : Int32) (x2 : Int32) (x3 : Int32) (x4 : Int32), k37 z x1 x2 x3 x4 = some res → ∀ (H : Heap) (locs : List Loc) (ls : Array Slot), va_P (dC, dI) vwCl ((ql_mw h ad cI cZ cJ) z) H → va_D A ((ql_mw h ad cI cZ cJ) z) → va_S A s.heap H locs → lv_has ls 6 [(0, .ref h), (1, .int x1), (2, .int x2), (3, .int x3), (4, .int x4)] → W p l e rm_X11_surveys s m args below meth c H locs 0 0 (ql_Qv below (dC, dI) (ql_mw h ad cI cZ cJ) A args s res) (F0 m 37 ls [])) : ∀ (z : ql_Z) (x1 : Int32) (x2 : Int32) (x3 : Int32) (x4 : Int32) (x5 : Int32) (y0 : Int32), f_X11_surveys_82 N k12 k24 k37 z x1 x2 x3 x4 x5 y0 = some res → ∀ (H : Heap) (locs : List Loc) (ls : Array Slot), va_P (dC, dI) vwCl ((ql_mw h ad cI cZ cJ) z) H → va_D A ((ql_mw h ad cI cZ cJ) z) → va_S A s.heap H locs → lv_has ls 6 [(0, .ref h), (1, .int x1), (2, .int x2), (3, .int x3), (4, .int x4), (5, .int x5)] → W p l e rm_X11_surveys s m args below meth c H locs 0 0 (ql_Qv below (dC, dI) (ql_mw h ad cI cZ cJ) A args s res) (F0 m 82 ls [.int y0, .ref h]) := by
  have C0q := C0
  obtain ⟨hx, hb, hr, hml, hown, hts, hlocks, hK, hA⟩ := C0q
  intro z x1 x2 x3 x4 x5 y0 hf H locs ls hP hD hS hl
  unfold f_X11_surveys_82 at hf
  refine lv_iconst (v := 0) hx hb dX11_surveys_82 (by decide) ?_
  exact w_X11_surveys_83 C0 N k12 hk12 k24 hk24 k37 hk37 _ _ _ _ _ _ _ _ hf _ _ _ hP hD hS (lv_sub hl [0, 1, 2, 3, 4, 5] rfl)
set_option maxHeartbeats 4000000 in
set_option maxRecDepth 100000 in
theorem w_X11_surveys_37 {p : Program} {l : Launch} {e : Env} {s : State} {m : MethodId} {args : Array Value} {below : List Frame} {meth : Method} {c : Code} {dC : Nat → ClassId} {dI : Nat → Nat → Nat} {A : Nat → Prop} {h : Nat} {ad : Nat → Nat} {cI cZ cJ : ClassId} {res : ql_Z} (C0 : ql_C p s m args meth c cX11_surveys 6 none wsX11_surveys RX11 (dC, dI) [(cI, .int), (cZ, .boolean), (cJ, .long)] A) (N : Nat) (k12 : ql_Z → Int32 → Int32 → Option (ql_Z)) (hk12 : ∀ (z : ql_Z) (x1 : Int32) (x2 : Int32), k12 z x1 x2 = some res → ∀ (H : Heap) (locs : List Loc) (ls : Array Slot), va_P (dC, dI) vwCl ((ql_mw h ad cI cZ cJ) z) H → va_D A ((ql_mw h ad cI cZ cJ) z) → va_S A s.heap H locs → lv_has ls 6 [(0, .ref h), (1, .int x1), (2, .int x2)] → W p l e rm_X11_surveys s m args below meth c H locs 0 0 (ql_Qv below (dC, dI) (ql_mw h ad cI cZ cJ) A args s res) (F0 m 12 ls [])) (k24 : ql_Z → Int32 → Int32 → Int32 → Option (ql_Z)) (hk24 : ∀ (z : ql_Z) (x1 : Int32) (x2 : Int32) (x3 : Int32), k24 z x1 x2 x3 = some res → ∀ (H : Heap) (locs : List Loc) (ls : Array Slot), va_P (dC, dI) vwCl ((ql_mw h ad cI cZ cJ) z) H → va_D A ((ql_mw h ad cI cZ cJ) z) → va_S A s.heap H locs → lv_has ls 6 [(0, .ref h), (1, .int x1), (2, .int x2), (3, .int x3)] → W p l e rm_X11_surveys s m args below meth c H locs 0 0 (ql_Qv below (dC, dI) (ql_mw h ad cI cZ cJ) A args s res) (F0 m 24 ls [])) : ∀ (n : Nat), ∀ (z : ql_Z) (x1 : Int32) (x2 : Int32) (x3 : Int32) (x4 : Int32), f_X11_surveys_37 N k12 k24 n z x1 x2 x3 x4 = some res → ∀ (H : Heap) (locs : List Loc) (ls : Array Slot), va_P (dC, dI) vwCl ((ql_mw h ad cI cZ cJ) z) H → va_D A ((ql_mw h ad cI cZ cJ) z) → va_S A s.heap H locs → lv_has ls 6 [(0, .ref h), (1, .int x1), (2, .int x2), (3, .int x3), (4, .int x4)] → W p l e rm_X11_surveys s m args below meth c H locs 0 0 (ql_Qv below (dC, dI) (ql_mw h ad cI cZ cJ) A args s res) (F0 m 37 ls []) := by
  have C0q := C0
  obtain ⟨hx, hb, hr, hml, hown, hts, hlocks, hK, hA⟩ := C0q
  have fl269 := hts (Cond.fieldLink RX11 269 "TestedLoopsModel" "reachSet" "I") (by decide +kernel)
  intro n
  induction n with
  | zero =>
    intro z x1 x2 x3 x4 hf
    rw [f_X11_surveys_37] at hf
    cases hf
  | succ n ih =>
    intro z x1 x2 x3 x4 hf H locs ls hP hD hS hl
    rw [f_X11_surveys_37] at hf
    refine lv_iload hx hb dX11_surveys_37 (lv_at hl 4 rfl) ?_
    refine lv_iconst (v := 4) hx hb dX11_surveys_39 (by decide) ?_
    refine lv_icmp_ge (tgt := 132) hx hb dX11_surveys_40 (by decide) (fun c4 => ?_) (fun c4 => ?_)
    · have hf := (if_pos c4).symm.trans hf
      refine lv_iinc (v := (x3 + 1)) (lv' := [(3, .int (x3 + 1)), (0, .ref h), (1, .int x1), (2, .int x2), (4, .int x4)]) hx hb dX11_surveys_132 hl (k := 3) rfl rfl (by decide) rfl (fun ls hl => ?_)
      refine lv_goto (tgt := 24) hx hb dX11_surveys_135 (by decide) ?_
      exact hk24 _ _ _ _ hf _ _ _ hP hD hS (lv_sub hl [1, 2, 3, 0] rfl)
    · have hf := (if_neg c4).symm.trans hf
      refine lv_aload_n hx hb dX11_surveys_43 rfl (lv_at hl 0 rfl) ?_
      refine lv_iload_n hx hb dX11_surveys_44 rfl (lv_at hl 1 rfl) ?_
      refine lv_iload_n hx hb dX11_surveys_45 rfl (lv_at hl 3 rfl) ?_
      refine lv_iload hx hb dX11_surveys_46 (lv_at hl 4 rfl) ?_
      obtain ⟨u5, hu5, hf⟩ := ql_bd hf
      refine ql_callRVi (As := [.int x1, .int x3, .int x4]) (rest := []) C0 (c_X11_to l dC dI h ad cI cZ cJ N z x1 x3 x4 u5 hu5) (cwV 3 hts gX11_surveys_X11_to rfl rfl rfl qv_X11_to ⟨Nat.le_of_ble_eq_true rfl, Nat.le_of_ble_eq_true rfl⟩) (va_recv hK.1 hP (ci := 11) (q0 := 0) rfl rfl) hK hP hS hl.1 rfl rfl (Nat.le_of_ble_eq_true rfl) dX11_surveys_48 (fun H1 locs hk hS => ?_)
      have hP := ql_keep hP hk
      refine lv_istore (lv' := [(5, .int u5), (0, .ref h), (1, .int x1), (2, .int x2), (3, .int x3), (4, .int x4)]) hx hb dX11_surveys_51 hl (by decide) rfl (fun ls hl => ?_)
      refine lv_aload_n hx hb dX11_surveys_53 rfl (lv_at hl 1 rfl) ?_
      refine lv_dup hx hb dX11_surveys_54 rfl ?_
      refine va_get (D := (dC, dI)) (ci := 11) (v := .int (z.1 32 0)) (C := RX11) (T := TX11) (N := 41) hx hb hts iw_X11_surveys_X11 hown hK.1 hP 0 rfl rfl 32 (by decide) fl269 (fun _ h9 => h9) rfl dX11_surveys_55 ?_
      refine lv_aload_n hx hb dX11_surveys_58 rfl (lv_at hl 1 rfl) ?_
      refine va_get (D := (dC, dI)) (ci := 11) (v := .int (z.1 32 0)) (C := RX11) (T := TX11) (N := 41) hx hb hts iw_X11_surveys_X11 hown hK.1 hP 0 rfl rfl 32 (by decide) fl269 (fun _ h9 => h9) rfl dX11_surveys_59 ?_
      refine lv_iload_n hx hb dX11_surveys_62 rfl (lv_at hl 4 rfl) ?_
      refine lv_ishr hx hb dX11_surveys_63 ?_
      refine lv_iconst (v := 1) hx hb dX11_surveys_64 (by decide) ?_
      refine lv_iand hx hb dX11_surveys_65 ?_
      refine lv_iconst (v := 1) hx hb dX11_surveys_66 (by decide) ?_
      refine lv_icmp_ne (tgt := 82) hx hb dX11_surveys_67 (by decide) (fun c6 => ?_) (fun c6 => ?_)
      · have hf := (if_neg c6).symm.trans hf
        exact w_X11_surveys_82 C0 N k12 hk12 k24 hk24 (f_X11_surveys_37 N k12 k24 n) ih _ _ _ _ _ _ _ hf _ _ _ hP hD hS (lv_sub hl [1, 2, 3, 4, 5, 0] rfl)
      · have hf := (if_pos c6).symm.trans hf
        refine lv_iload hx hb dX11_surveys_70 (lv_at hl 0 rfl) ?_
        refine lv_if_le (tgt := 82) hx hb dX11_surveys_72 (by decide) (fun c7 => ?_) (fun c7 => ?_)
        · have hf := (if_pos c7).symm.trans hf
          exact w_X11_surveys_82 C0 N k12 hk12 k24 hk24 (f_X11_surveys_37 N k12 k24 n) ih _ _ _ _ _ _ _ hf _ _ _ hP hD hS (lv_sub hl [1, 2, 3, 4, 5, 0] rfl)
        · have hf := (if_neg c7).symm.trans hf
          refine lv_iconst (v := 1) hx hb dX11_surveys_75 (by decide) ?_
          refine lv_iload hx hb dX11_surveys_76 (lv_at hl 0 rfl) ?_
          refine lv_ishl hx hb dX11_surveys_78 ?_
          refine lv_goto (tgt := 83) hx hb dX11_surveys_79 (by decide) ?_
          exact w_X11_surveys_83 C0 N k12 hk12 k24 hk24 (f_X11_surveys_37 N k12 k24 n) ih _ _ _ _ _ _ _ _ hf _ _ _ hP hD hS (lv_sub hl [1, 2, 3, 4, 5, 0] rfl)
set_option maxHeartbeats 4000000 in
set_option maxRecDepth 100000 in
theorem w_X11_surveys_24 {p : Program} {l : Launch} {e : Env} {s : State} {m : MethodId} {args : Array Value} {below : List Frame} {meth : Method} {c : Code} {dC : Nat → ClassId} {dI : Nat → Nat → Nat} {A : Nat → Prop} {h : Nat} {ad : Nat → Nat} {cI cZ cJ : ClassId} {res : ql_Z} (C0 : ql_C p s m args meth c cX11_surveys 6 none wsX11_surveys RX11 (dC, dI) [(cI, .int), (cZ, .boolean), (cJ, .long)] A) (N : Nat) (k12 : ql_Z → Int32 → Int32 → Option (ql_Z)) (hk12 : ∀ (z : ql_Z) (x1 : Int32) (x2 : Int32), k12 z x1 x2 = some res → ∀ (H : Heap) (locs : List Loc) (ls : Array Slot), va_P (dC, dI) vwCl ((ql_mw h ad cI cZ cJ) z) H → va_D A ((ql_mw h ad cI cZ cJ) z) → va_S A s.heap H locs → lv_has ls 6 [(0, .ref h), (1, .int x1), (2, .int x2)] → W p l e rm_X11_surveys s m args below meth c H locs 0 0 (ql_Qv below (dC, dI) (ql_mw h ad cI cZ cJ) A args s res) (F0 m 12 ls [])) : ∀ (n : Nat), ∀ (z : ql_Z) (x1 : Int32) (x2 : Int32) (x3 : Int32), f_X11_surveys_24 N k12 n z x1 x2 x3 = some res → ∀ (H : Heap) (locs : List Loc) (ls : Array Slot), va_P (dC, dI) vwCl ((ql_mw h ad cI cZ cJ) z) H → va_D A ((ql_mw h ad cI cZ cJ) z) → va_S A s.heap H locs → lv_has ls 6 [(0, .ref h), (1, .int x1), (2, .int x2), (3, .int x3)] → W p l e rm_X11_surveys s m args below meth c H locs 0 0 (ql_Qv below (dC, dI) (ql_mw h ad cI cZ cJ) A args s res) (F0 m 24 ls []) := by
  have C0q := C0
  obtain ⟨hx, hb, hr, hml, hown, hts, hlocks, hK, hA⟩ := C0q
  have fl31 := hts (Cond.fieldLink RX11 31 "TestedLoopsModel" "many" "[I") (by decide +kernel)
  intro n
  induction n with
  | zero =>
    intro z x1 x2 x3 hf
    rw [f_X11_surveys_24] at hf
    cases hf
  | succ n ih =>
    intro z x1 x2 x3 hf H locs ls hP hD hS hl
    rw [f_X11_surveys_24] at hf
    refine lv_iload_n hx hb dX11_surveys_24 rfl (lv_at hl 3 rfl) ?_
    refine lv_aload_n hx hb dX11_surveys_25 rfl (lv_at hl 0 rfl) ?_
    refine va_get (D := (dC, dI)) (ci := 11) (v := .ref (ad 9)) (C := RX11) (T := TX11) (N := 41) hx hb hts iw_X11_surveys_X11 hown hK.1 hP 0 rfl rfl 9 (by decide) fl31 (fun _ h9 => h9) rfl dX11_surveys_26 ?_
    refine lv_iload_n hx hb dX11_surveys_29 rfl (lv_at hl 1 rfl) ?_
    have g0 := ql_in (ql_gt hf)
    have hf := ql_gx hf
    refine va_iald (f := (z.1 9)) hx hb hK.1 hP 8 0 rfl rfl g0 dX11_surveys_30 ?_
    refine lv_icmp_gt (tgt := 138) hx hb dX11_surveys_31 (by decide) (fun c8 => ?_) (fun c8 => ?_)
    · have hf := (if_pos c8).symm.trans hf
      refine lv_iinc (v := (x2 + 1)) (lv' := [(2, .int (x2 + 1)), (0, .ref h), (1, .int x1), (3, .int x3)]) hx hb dX11_surveys_138 hl (k := 2) rfl rfl (by decide) rfl (fun ls hl => ?_)
      refine lv_goto (tgt := 12) hx hb dX11_surveys_141 (by decide) ?_
      exact hk12 _ _ _ hf _ _ _ hP hD hS (lv_sub hl [1, 2, 0] rfl)
    · have hf := (if_neg c8).symm.trans hf
      refine lv_iconst (v := 0) hx hb dX11_surveys_34 (by decide) ?_
      refine lv_istore (lv' := [(4, .int 0), (0, .ref h), (1, .int x1), (2, .int x2), (3, .int x3)]) hx hb dX11_surveys_35 hl (by decide) rfl (fun ls hl => ?_)
      exact w_X11_surveys_37 C0 N k12 hk12 (f_X11_surveys_24 N k12 n) ih N _ _ _ _ _ hf _ _ _ hP hD hS (lv_sub hl [1, 2, 3, 4, 0] rfl)
set_option maxHeartbeats 4000000 in
set_option maxRecDepth 100000 in
theorem w_X11_surveys_12 {p : Program} {l : Launch} {e : Env} {s : State} {m : MethodId} {args : Array Value} {below : List Frame} {meth : Method} {c : Code} {dC : Nat → ClassId} {dI : Nat → Nat → Nat} {A : Nat → Prop} {h : Nat} {ad : Nat → Nat} {cI cZ cJ : ClassId} {res : ql_Z} (C0 : ql_C p s m args meth c cX11_surveys 6 none wsX11_surveys RX11 (dC, dI) [(cI, .int), (cZ, .boolean), (cJ, .long)] A) (N : Nat) : ∀ (n : Nat), ∀ (z : ql_Z) (x1 : Int32) (x2 : Int32), f_X11_surveys_12 N n z x1 x2 = some res → ∀ (H : Heap) (locs : List Loc) (ls : Array Slot), va_P (dC, dI) vwCl ((ql_mw h ad cI cZ cJ) z) H → va_D A ((ql_mw h ad cI cZ cJ) z) → va_S A s.heap H locs → lv_has ls 6 [(0, .ref h), (1, .int x1), (2, .int x2)] → W p l e rm_X11_surveys s m args below meth c H locs 0 0 (ql_Qv below (dC, dI) (ql_mw h ad cI cZ cJ) A args s res) (F0 m 12 ls []) := by
  have C0q := C0
  obtain ⟨hx, hb, hr, hml, hown, hts, hlocks, hK, hA⟩ := C0q
  have fl31 := hts (Cond.fieldLink RX11 31 "TestedLoopsModel" "many" "[I") (by decide +kernel)
  intro n
  induction n with
  | zero =>
    intro z x1 x2 hf
    rw [f_X11_surveys_12] at hf
    cases hf
  | succ n ih =>
    intro z x1 x2 hf H locs ls hP hD hS hl
    rw [f_X11_surveys_12] at hf
    refine lv_iload_n hx hb dX11_surveys_12 rfl (lv_at hl 2 rfl) ?_
    refine lv_aload_n hx hb dX11_surveys_13 rfl (lv_at hl 0 rfl) ?_
    refine va_get (D := (dC, dI)) (ci := 11) (v := .ref (ad 9)) (C := RX11) (T := TX11) (N := 41) hx hb hts iw_X11_surveys_X11 hown hK.1 hP 0 rfl rfl 9 (by decide) fl31 (fun _ h9 => h9) rfl dX11_surveys_14 ?_
    refine lv_iload_n hx hb dX11_surveys_17 rfl (lv_at hl 1 rfl) ?_
    have g0 := ql_in (ql_gt hf)
    have hf := ql_gx hf
    refine va_iald (f := (z.1 9)) hx hb hK.1 hP 8 0 rfl rfl g0 dX11_surveys_18 ?_
    refine lv_icmp_gt (tgt := 144) hx hb dX11_surveys_19 (by decide) (fun c9 => ?_) (fun c9 => ?_)
    · have hf := (if_pos c9).symm.trans hf
      exact ql_vret C0 hf hP hD hS dX11_surveys_144
    · have hf := (if_neg c9).symm.trans hf
      refine lv_iconst (v := 0) hx hb dX11_surveys_22 (by decide) ?_
      refine lv_istore_n (lv' := [(3, .int 0), (0, .ref h), (1, .int x1), (2, .int x2)]) hx hb dX11_surveys_23 rfl hl (by decide) rfl (fun ls hl => ?_)
      exact w_X11_surveys_24 C0 N (f_X11_surveys_12 N n) ih N _ _ _ _ hf _ _ _ hP hD hS (lv_sub hl [1, 2, 3, 0] rfl)
set_option maxHeartbeats 4000000 in
set_option maxRecDepth 100000 in
theorem w_X11_surveys_0 {p : Program} {l : Launch} {e : Env} {s : State} {m : MethodId} {args : Array Value} {below : List Frame} {meth : Method} {c : Code} {dC : Nat → ClassId} {dI : Nat → Nat → Nat} {A : Nat → Prop} {h : Nat} {ad : Nat → Nat} {cI cZ cJ : ClassId} {res : ql_Z} (C0 : ql_C p s m args meth c cX11_surveys 6 none wsX11_surveys RX11 (dC, dI) [(cI, .int), (cZ, .boolean), (cJ, .long)] A) (N : Nat) : ∀ (z : ql_Z) (x1 : Int32), f_X11_surveys_0 N z x1 = some res → ∀ (H : Heap) (locs : List Loc) (ls : Array Slot), va_P (dC, dI) vwCl ((ql_mw h ad cI cZ cJ) z) H → va_D A ((ql_mw h ad cI cZ cJ) z) → va_S A s.heap H locs → lv_has ls 6 [(0, .ref h), (1, .int x1)] → W p l e rm_X11_surveys s m args below meth c H locs 0 0 (ql_Qv below (dC, dI) (ql_mw h ad cI cZ cJ) A args s res) (F0 m 0 ls []) := by
  have C0q := C0
  obtain ⟨hx, hb, hr, hml, hown, hts, hlocks, hK, hA⟩ := C0q
  have fl269 := hts (Cond.fieldLink RX11 269 "TestedLoopsModel" "reachSet" "I") (by decide +kernel)
  have fl272 := hts (Cond.fieldLink RX11 272 "TestedLoopsModel" "liveSet" "I") (by decide +kernel)
  intro z x1 hf H locs ls hP hD hS hl
  unfold f_X11_surveys_0 at hf
  refine lv_aload_n hx hb dX11_surveys_0 rfl (lv_at hl 0 rfl) ?_
  refine lv_iconst (v := 1) hx hb dX11_surveys_1 (by decide) ?_
  refine va_put (D := (dC, dI)) (ci := 11) (v := .int 1) (ty := .int) (C := RX11) (T := TX11) (N := 41) hx hb hts iw_X11_surveys_X11 tyX11 tyX11_ok nmX11 hown hK.1 hP hD hS 0 rfl rfl 32 (by decide) fl269 (fun _ h9 => h9) rfl (by decide +kernel) rfl rfl (Nat.le_of_ble_eq_true rfl) dX11_surveys_2 (fun H locs hP hD hS => ?_)
  refine lv_aload_n hx hb dX11_surveys_5 rfl (lv_at hl 0 rfl) ?_
  refine lv_iconst (v := 0) hx hb dX11_surveys_6 (by decide) ?_
  refine va_put (D := (dC, dI)) (ci := 11) (v := .int 0) (ty := .int) (C := RX11) (T := TX11) (N := 41) hx hb hts iw_X11_surveys_X11 tyX11 tyX11_ok nmX11 hown hK.1 hP hD hS 0 rfl rfl 33 (by decide) fl272 (fun _ h9 => h9) rfl (by decide +kernel) rfl rfl (Nat.le_of_ble_eq_true rfl) dX11_surveys_7 (fun H locs hP hD hS => ?_)
  refine lv_iconst (v := 0) hx hb dX11_surveys_10 (by decide) ?_
  refine lv_istore_n (lv' := [(2, .int 0), (0, .ref h), (1, .int x1)]) hx hb dX11_surveys_11 rfl hl (by decide) rfl (fun ls hl => ?_)
  exact w_X11_surveys_12 C0 N N _ _ _ hf _ _ _ hP hD hS (lv_sub hl [1, 2, 0] rfl)
set_option maxRecDepth 100000 in
theorem c_X11_surveys (l : Launch) (dC : Nat → ClassId) (dI : Nat → Nat → Nat) (h : Nat) (ad : Nat → Nat) (cI cZ cJ : ClassId) (N : Nat) (z : ql_Z) (x1 : Int32) (res : ql_Z) (hf : f_X11_surveys N z x1 = some res) : ql_Mv l yX11_surveys wsX11_surveys rm_X11_surveys (dC, dI) [(cI, .int), (cZ, .boolean), (cJ, .long)] (ql_mw h ad cI cZ cJ) [.ref h, .int x1] z res :=
  ql_start_v (by decide) rfl (Nat.le_of_ble_eq_true rfl) (fun p e s m below meth c A ls C0 hl hP hD hS => w_X11_surveys_0 C0 N z x1 hf s.heap [] ls hP hD hS (lv_sub (show lv_has ls 6 [(0, .ref h), (1, .int x1)] from hl) [0, 1] rfl))
/-! ===== TestedLoopsModel.dead(I)I ===== -/
abbrev rm_X11_dead : Room := { frames := 2, cells := 0, slots := 0, locals := 48 }
theorem iw_X11_dead_X11 : ∀ w ∈ wsX110, w ∈ wsX11_dead := fun w h => List.mem_cons_of_mem _ (List.mem_append_right _ h)
theorem qv_X11_dead : yX11_dead.cls = RX11 ∧ yX11_dead.cls ≠ "java/lang/invoke/MethodHandle" ∧ yX11_dead.cls ≠ "java/lang/invoke/VarHandle" ∧ (parseMethodDescriptor yX11_dead.desc).map (fun d => d.parameters.length) = some 1 := by decide +kernel
def f_X11_dead_0 (N : Nat) (z : ql_Z) (x1 : Int32) : Option (Int32 × ql_Z) := (f_X11_isProgram N x1).bind fun u1 => if u1 = 0 then some ((-1), z) else (f_X11_surveys N z x1).bind fun u3 => if ql_ib x1 5 = true then some (((((u3.1 32 0) &&& (u3.1 33 0)) ^^^ (-1)) &&& (((1 : Int32) <<< ((((u3.1 9) x1.toNatClampNeg) + 1) &&& 31)) - 2)), u3) else none
def f_X11_dead (N : Nat) (z : ql_Z) (x1 : Int32) : Option (Int32 × ql_Z) := f_X11_dead_0 N z x1
set_option maxHeartbeats 4000000 in
set_option maxRecDepth 100000 in
theorem w_X11_dead_0 {p : Program} {l : Launch} {e : Env} {s : State} {m : MethodId} {args : Array Value} {below : List Frame} {meth : Method} {c : Code} {dC : Nat → ClassId} {dI : Nat → Nat → Nat} {A : Nat → Prop} {h : Nat} {ad : Nat → Nat} {cI cZ cJ : ClassId} {res : Int32 × ql_Z} (C0 : ql_C p s m args meth c cX11_dead 2 (some .int) wsX11_dead RX11 (dC, dI) [(cI, .int), (cZ, .boolean), (cJ, .long)] A) (N : Nat) : ∀ (z : ql_Z) (x1 : Int32), f_X11_dead_0 N z x1 = some res → ∀ (H : Heap) (locs : List Loc) (ls : Array Slot), va_P (dC, dI) vwCl ((ql_mw h ad cI cZ cJ) z) H → va_D A ((ql_mw h ad cI cZ cJ) z) → va_S A s.heap H locs → lv_has ls 2 [(0, .ref h), (1, .int x1)] → W p l e rm_X11_dead s m args below meth c H locs 0 0 (ql_Qi below (dC, dI) (ql_mw h ad cI cZ cJ) A args s res) (F0 m 0 ls []) := by
  have C0q := C0
  obtain ⟨hx, hb, hr, hml, hown, hts, hlocks, hK, hA⟩ := C0q
  have fl269 := hts (Cond.fieldLink RX11 269 "TestedLoopsModel" "reachSet" "I") (by decide +kernel)
  have fl272 := hts (Cond.fieldLink RX11 272 "TestedLoopsModel" "liveSet" "I") (by decide +kernel)
  have fl31 := hts (Cond.fieldLink RX11 31 "TestedLoopsModel" "many" "[I") (by decide +kernel)
  intro z x1 hf H locs ls hP hD hS hl
  unfold f_X11_dead_0 at hf
  refine lv_iload_n hx hb dX11_dead_0 rfl (lv_at hl 1 rfl) ?_
  obtain ⟨u1, hu1, hf⟩ := ql_bd hf
  refine ql_callRSi (As := [.int x1]) (rest := []) C0 (c_X11_isProgram l dC dI N x1 u1 hu1) (va_cwS 1 hts gX11_dead_X11_isProgram rfl rfl rfl qd_X11_isProgram ⟨Nat.le_of_ble_eq_true rfl, Nat.le_of_ble_eq_true rfl⟩) (hK.sub [] rfl) ql_nil hS hl.1 rfl rfl (Nat.le_of_ble_eq_true rfl) dX11_dead_1 (fun H1 locs hk hS => ?_)
  have hP := ql_keep hP hk
  refine lv_if_ne (tgt := 9) hx hb dX11_dead_4 (by decide) (fun c2 => ?_) (fun c2 => ?_)
  · have hf := (if_neg c2).symm.trans hf
    refine lv_aload_n hx hb dX11_dead_9 rfl (lv_at hl 0 rfl) ?_
    refine lv_iload_n hx hb dX11_dead_10 rfl (lv_at hl 1 rfl) ?_
    obtain ⟨u3, hu3, hf⟩ := ql_bd hf
    refine ql_callVv (As := [.int x1]) (rest := []) C0 (c_X11_surveys l dC dI h ad cI cZ cJ N z x1 u3 hu3) (cwV 1 hts gX11_dead_X11_surveys rfl rfl rfl qv_X11_surveys ⟨Nat.le_of_ble_eq_true rfl, Nat.le_of_ble_eq_true rfl⟩) (va_recv hK.1 hP (ci := 11) (q0 := 0) rfl rfl) hP hD hS hl.1 rfl rfl (Nat.le_of_ble_eq_true rfl) dX11_dead_11 (fun H locs hP hD hS => ?_)
    refine lv_aload_n hx hb dX11_dead_14 rfl (lv_at hl 0 rfl) ?_
    refine va_get (D := (dC, dI)) (ci := 11) (v := .int (u3.1 32 0)) (C := RX11) (T := TX11) (N := 41) hx hb hts iw_X11_dead_X11 hown hK.1 hP 0 rfl rfl 32 (by decide) fl269 (fun _ h9 => h9) rfl dX11_dead_15 ?_
    refine lv_aload_n hx hb dX11_dead_18 rfl (lv_at hl 0 rfl) ?_
    refine va_get (D := (dC, dI)) (ci := 11) (v := .int (u3.1 33 0)) (C := RX11) (T := TX11) (N := 41) hx hb hts iw_X11_dead_X11 hown hK.1 hP 0 rfl rfl 33 (by decide) fl272 (fun _ h9 => h9) rfl dX11_dead_19 ?_
    refine lv_iand hx hb dX11_dead_22 ?_
    refine lv_iconst (v := (-1)) hx hb dX11_dead_23 (by decide) ?_
    refine lv_ixor hx hb dX11_dead_24 ?_
    refine lv_iconst (v := 1) hx hb dX11_dead_25 (by decide) ?_
    refine lv_aload_n hx hb dX11_dead_26 rfl (lv_at hl 0 rfl) ?_
    refine va_get (D := (dC, dI)) (ci := 11) (v := .ref (ad 9)) (C := RX11) (T := TX11) (N := 41) hx hb hts iw_X11_dead_X11 hown hK.1 hP 0 rfl rfl 9 (by decide) fl31 (fun _ h9 => h9) rfl dX11_dead_27 ?_
    refine lv_iload_n hx hb dX11_dead_30 rfl (lv_at hl 1 rfl) ?_
    have g0 := ql_in (ql_gt hf)
    have hf := ql_gx hf
    refine va_iald (f := (u3.1 9)) hx hb hK.1 hP 8 0 rfl rfl g0 dX11_dead_31 ?_
    refine lv_iconst (v := 1) hx hb dX11_dead_32 (by decide) ?_
    refine lv_iadd hx hb dX11_dead_33 ?_
    refine lv_ishl hx hb dX11_dead_34 ?_
    refine lv_iconst (v := 2) hx hb dX11_dead_35 (by decide) ?_
    refine lv_isub hx hb dX11_dead_36 ?_
    refine lv_iand hx hb dX11_dead_37 ?_
    exact ql_iret C0 hf hP hD hS dX11_dead_38
  · have hf := (if_pos c2).symm.trans hf
    refine lv_iconst (v := (-1)) hx hb dX11_dead_7 (by decide) ?_
    exact ql_iret C0 hf hP hD hS dX11_dead_8
set_option maxRecDepth 100000 in
theorem c_X11_dead (l : Launch) (dC : Nat → ClassId) (dI : Nat → Nat → Nat) (h : Nat) (ad : Nat → Nat) (cI cZ cJ : ClassId) (N : Nat) (z : ql_Z) (x1 : Int32) (res : Int32 × ql_Z) (hf : f_X11_dead N z x1 = some res) : ql_Mi l yX11_dead wsX11_dead rm_X11_dead (dC, dI) [(cI, .int), (cZ, .boolean), (cJ, .long)] (ql_mw h ad cI cZ cJ) [.ref h, .int x1] z res :=
  ql_start_i (by decide) rfl (Nat.le_of_ble_eq_true rfl) (fun p e s m below meth c A ls C0 hl hP hD hS => w_X11_dead_0 C0 N z x1 hf s.heap [] ls hP hD hS (lv_sub (show lv_has ls 2 [(0, .ref h), (1, .int x1)] from hl) [0, 1] rfl))
/-! ===== TestedLoopsModel.sees(III)I ===== -/
abbrev rm_X11_sees : Room := { frames := 1, cells := 0, slots := 0, locals := 23 }
theorem iw_X11_sees_X11 : ∀ w ∈ wsX110, w ∈ wsX11_sees := fun w h => List.mem_cons_of_mem _ (List.mem_append_right _ h)
theorem qv_X11_sees : yX11_sees.cls = RX11 ∧ yX11_sees.cls ≠ "java/lang/invoke/MethodHandle" ∧ yX11_sees.cls ≠ "java/lang/invoke/VarHandle" ∧ (parseMethodDescriptor yX11_sees.desc).map (fun d => d.parameters.length) = some 3 := by decide +kernel
def f_X11_sees_0 (N : Nat) (z : ql_Z) (x1 : Int32) (x2 : Int32) (x3 : Int32) : Option (Int32) := (f_X11_to N z x1 x2 x3).bind fun u1 => if 0 < u1 then if (((z.1 33 0) >>> (u1 &&& 31)) &&& 1) = 0 then some (-1) else if ql_ib u1 17 = true then (f_X11_actOf N z x1 u1).bind fun u4 => some ((4 * (((z.1 34) u1.toNatClampNeg) + 1)) + u4) else none else some u1
def f_X11_sees (N : Nat) (z : ql_Z) (x1 : Int32) (x2 : Int32) (x3 : Int32) : Option (Int32) := f_X11_sees_0 N z x1 x2 x3
set_option maxHeartbeats 4000000 in
set_option maxRecDepth 100000 in
theorem w_X11_sees_0 {p : Program} {l : Launch} {e : Env} {s : State} {m : MethodId} {args : Array Value} {below : List Frame} {meth : Method} {c : Code} {dC : Nat → ClassId} {dI : Nat → Nat → Nat} {A : Nat → Prop} {h : Nat} {ad : Nat → Nat} {cI cZ cJ : ClassId} {res : Int32} (C0 : ql_C p s m args meth c cX11_sees 5 (some .int) wsX11_sees RX11 (dC, dI) [(cI, .int), (cZ, .boolean), (cJ, .long)] A) (N : Nat) (z : ql_Z) : ∀ (x1 : Int32) (x2 : Int32) (x3 : Int32), f_X11_sees_0 N z x1 x2 x3 = some res → ∀ (H : Heap) (locs : List Loc) (ls : Array Slot), va_P (dC, dI) vwCl ((ql_mw h ad cI cZ cJ) z) H → va_S A s.heap H locs → lv_has ls 5 [(0, .ref h), (1, .int x1), (2, .int x2), (3, .int x3)] → W p l e rm_X11_sees s m args below meth c H locs 0 0 (ql_Qri below A args s res) (F0 m 0 ls []) := by
  have C0q := C0
  obtain ⟨hx, hb, hr, hml, hown, hts, hlocks, hK, hA⟩ := C0q
  have fl272 := hts (Cond.fieldLink RX11 272 "TestedLoopsModel" "liveSet" "I") (by decide +kernel)
  have fl77 := hts (Cond.fieldLink RX11 77 "TestedLoopsModel" "group" "[I") (by decide +kernel)
  intro x1 x2 x3 hf H locs ls hP hS hl
  unfold f_X11_sees_0 at hf
  refine lv_aload_n hx hb dX11_sees_0 rfl (lv_at hl 0 rfl) ?_
  refine lv_iload_n hx hb dX11_sees_1 rfl (lv_at hl 1 rfl) ?_
  refine lv_iload_n hx hb dX11_sees_2 rfl (lv_at hl 2 rfl) ?_
  refine lv_iload_n hx hb dX11_sees_3 rfl (lv_at hl 3 rfl) ?_
  obtain ⟨u1, hu1, hf⟩ := ql_bd hf
  refine ql_callRVi (As := [.int x1, .int x2, .int x3]) (rest := []) C0 (c_X11_to l dC dI h ad cI cZ cJ N z x1 x2 x3 u1 hu1) (cwV 3 hts gX11_sees_X11_to rfl rfl rfl qv_X11_to ⟨Nat.le_of_ble_eq_true rfl, Nat.le_of_ble_eq_true rfl⟩) (va_recv hK.1 hP (ci := 11) (q0 := 0) rfl rfl) hK hP hS hl.1 rfl rfl (Nat.le_of_ble_eq_true rfl) dX11_sees_4 (fun H1 locs hk hS => ?_)
  have hP := ql_keep hP hk
  refine lv_istore (lv' := [(4, .int u1), (0, .ref h), (1, .int x1), (2, .int x2), (3, .int x3)]) hx hb dX11_sees_7 hl (by decide) rfl (fun ls hl => ?_)
  refine lv_iload hx hb dX11_sees_9 (lv_at hl 0 rfl) ?_
  refine lv_if_gt (tgt := 19) hx hb dX11_sees_11 (by decide) (fun c2 => ?_) (fun c2 => ?_)
  · have hf := (if_pos c2).symm.trans hf
    refine lv_aload_n hx hb dX11_sees_19 rfl (lv_at hl 1 rfl) ?_
    refine va_get (D := (dC, dI)) (ci := 11) (v := .int (z.1 33 0)) (C := RX11) (T := TX11) (N := 41) hx hb hts iw_X11_sees_X11 hown hK.1 hP 0 rfl rfl 33 (by decide) fl272 (fun _ h9 => h9) rfl dX11_sees_20 ?_
    refine lv_iload hx hb dX11_sees_23 (lv_at hl 0 rfl) ?_
    refine lv_ishr hx hb dX11_sees_25 ?_
    refine lv_iconst (v := 1) hx hb dX11_sees_26 (by decide) ?_
    refine lv_iand hx hb dX11_sees_27 ?_
    refine lv_if_ne (tgt := 35) hx hb dX11_sees_28 (by decide) (fun c3 => ?_) (fun c3 => ?_)
    · have hf := (if_neg c3).symm.trans hf
      refine lv_iconst (v := 4) hx hb dX11_sees_35 (by decide) ?_
      refine lv_aload_n hx hb dX11_sees_36 rfl (lv_at hl 1 rfl) ?_
      refine va_get (D := (dC, dI)) (ci := 11) (v := .ref (ad 34)) (C := RX11) (T := TX11) (N := 41) hx hb hts iw_X11_sees_X11 hown hK.1 hP 0 rfl rfl 34 (by decide) fl77 (fun _ h9 => h9) rfl dX11_sees_37 ?_
      refine lv_iload hx hb dX11_sees_40 (lv_at hl 0 rfl) ?_
      have g0 := ql_in (ql_gt hf)
      have hf := ql_gx hf
      refine va_iald (f := (z.1 34)) hx hb hK.1 hP 23 0 rfl rfl g0 dX11_sees_42 ?_
      refine lv_iconst (v := 1) hx hb dX11_sees_43 (by decide) ?_
      refine lv_iadd hx hb dX11_sees_44 ?_
      refine lv_imul hx hb dX11_sees_45 ?_
      refine lv_aload_n hx hb dX11_sees_46 rfl (lv_at hl 1 rfl) ?_
      refine lv_iload_n hx hb dX11_sees_47 rfl (lv_at hl 2 rfl) ?_
      refine lv_iload hx hb dX11_sees_48 (lv_at hl 0 rfl) ?_
      obtain ⟨u4, hu4, hf⟩ := ql_bd hf
      refine ql_callRVi (As := [.int x1, .int u1]) (rest := [.int (4 * (((z.1 34) u1.toNatClampNeg) + 1))]) C0 (c_X11_actOf l dC dI h ad cI cZ cJ N z x1 u1 u4 hu4) (cwV 2 hts gX11_sees_X11_actOf rfl rfl rfl qv_X11_actOf ⟨Nat.le_of_ble_eq_true rfl, Nat.le_of_ble_eq_true rfl⟩) (va_recv hK.1 hP (ci := 11) (q0 := 0) rfl rfl) hK hP hS hl.1 rfl rfl (Nat.le_of_ble_eq_true rfl) dX11_sees_50 (fun H1 locs hk hS => ?_)
      have hP := ql_keep hP hk
      refine lv_iadd hx hb dX11_sees_53 ?_
      exact ql_riret C0 hf hS dX11_sees_54
    · have hf := (if_pos c3).symm.trans hf
      refine lv_iconst (v := (-1)) hx hb dX11_sees_31 (by decide) ?_
      refine lv_goto (tgt := 54) hx hb dX11_sees_32 (by decide) ?_
      exact ql_riret C0 hf hS dX11_sees_54
  · have hf := (if_neg c2).symm.trans hf
    refine lv_iload hx hb dX11_sees_14 (lv_at hl 0 rfl) ?_
    refine lv_goto (tgt := 54) hx hb dX11_sees_16 (by decide) ?_
    exact ql_riret C0 hf hS dX11_sees_54
set_option maxRecDepth 100000 in
theorem c_X11_sees (l : Launch) (dC : Nat → ClassId) (dI : Nat → Nat → Nat) (h : Nat) (ad : Nat → Nat) (cI cZ cJ : ClassId) (N : Nat) (z : ql_Z) (x1 : Int32) (x2 : Int32) (x3 : Int32) (res : Int32) (hf : f_X11_sees N z x1 x2 x3 = some res) : ql_Ri l yX11_sees wsX11_sees rm_X11_sees (dC, dI) [(cI, .int), (cZ, .boolean), (cJ, .long)] ((ql_mw h ad cI cZ cJ) z) [.ref h, .int x1, .int x2, .int x3] res :=
  ql_start_ri (by decide) rfl (Nat.le_of_ble_eq_true rfl) (fun p e s m below meth c A ls C0 hl hP hS => w_X11_sees_0 C0 N z x1 x2 x3 hf s.heap [] ls hP hS (lv_sub (show lv_has ls 5 [(0, .ref h), (1, .int x1), (2, .int x2), (3, .int x3)] from hl) [0, 1, 2, 3] rfl))
/-! ===== TestedLoopsModel.areAlike(III)Z ===== -/
abbrev rm_X11_areAlike : Room := { frames := 2, cells := 0, slots := 0, locals := 47 }
theorem iw_X11_areAlike_X11 : ∀ w ∈ wsX110, w ∈ wsX11_areAlike := fun w h => List.mem_cons_of_mem _ (List.mem_append_right _ h)
theorem qv_X11_areAlike : yX11_areAlike.cls = RX11 ∧ yX11_areAlike.cls ≠ "java/lang/invoke/MethodHandle" ∧ yX11_areAlike.cls ≠ "java/lang/invoke/VarHandle" ∧ (parseMethodDescriptor yX11_areAlike.desc).map (fun d => d.parameters.length) = some 3 := by decide +kernel
def f_X11_areAlike_41 (N : Nat) (z : ql_Z) (k6 : Int32 → Int32 → Int32 → Int32 → Int32 → Option (Int32)) (x1 : Int32) (x2 : Int32) (x3 : Int32) (x5 : Int32) (y0 : Int32) : Option (Int32) := k6 x1 x2 x3 y0 (x5 + 1)
def f_X11_areAlike_40 (N : Nat) (z : ql_Z) (k6 : Int32 → Int32 → Int32 → Int32 → Int32 → Option (Int32)) (x1 : Int32) (x2 : Int32) (x3 : Int32) (x5 : Int32) : Option (Int32) := f_X11_areAlike_41 N z k6 x1 x2 x3 x5 0
def f_X11_areAlike_6 (N : Nat) (z : ql_Z) : Nat → Int32 → Int32 → Int32 → Int32 → Int32 → Option (Int32)
  | 0, _, _, _, _, _ => none
  | n + 1, x1, x2, x3, x4, x5 => if 4 ≤ x5 then if ql_bz x4 = true then some x4 else none else if x4 = 0 then f_X11_areAlike_40 N z (f_X11_areAlike_6 N z n) x1 x2 x3 x5 else (f_X11_sees N z x1 x2 x5).bind fun u3 => (f_X11_sees N z x1 x3 x5).bind fun u4 => if u3 = u4 then f_X11_areAlike_41 N z (f_X11_areAlike_6 N z n) x1 x2 x3 x5 1 else f_X11_areAlike_40 N z (f_X11_areAlike_6 N z n) x1 x2 x3 x5
def f_X11_areAlike_0 (N : Nat) (z : ql_Z) (x1 : Int32) (x2 : Int32) (x3 : Int32) : Option (Int32) := f_X11_areAlike_6 N z N x1 x2 x3 1 0
def f_X11_areAlike (N : Nat) (z : ql_Z) (x1 : Int32) (x2 : Int32) (x3 : Int32) : Option (Int32) := f_X11_areAlike_0 N z x1 x2 x3
set_option maxHeartbeats 4000000 in
set_option maxRecDepth 100000 in
theorem w_X11_areAlike_41 {p : Program} {l : Launch} {e : Env} {s : State} {m : MethodId} {args : Array Value} {below : List Frame} {meth : Method} {c : Code} {dC : Nat → ClassId} {dI : Nat → Nat → Nat} {A : Nat → Prop} {h : Nat} {ad : Nat → Nat} {cI cZ cJ : ClassId} {res : Int32} (C0 : ql_C p s m args meth c cX11_areAlike 6 (some .boolean) wsX11_areAlike RX11 (dC, dI) [(cI, .int), (cZ, .boolean), (cJ, .long)] A) (N : Nat) (z : ql_Z) (k6 : Int32 → Int32 → Int32 → Int32 → Int32 → Option (Int32)) (hk6 : ∀ (x1 : Int32) (x2 : Int32) (x3 : Int32) (x4 : Int32) (x5 : Int32), k6 x1 x2 x3 x4 x5 = some res → ∀ (H : Heap) (locs : List Loc) (ls : Array Slot), va_P (dC, dI) vwCl ((ql_mw h ad cI cZ cJ) z) H → va_S A s.heap H locs → lv_has ls 6 [(0, .ref h), (1, .int x1), (2, .int x2), (3, .int x3), (4, .int x4), (5, .int x5)] → W p l e rm_X11_areAlike s m args below meth c H locs 0 0 (ql_Qri below A args s res) (F0 m 6 ls [])) : ∀ (x1 : Int32) (x2 : Int32) (x3 : Int32) (x5 : Int32) (y0 : Int32), f_X11_areAlike_41 N z k6 x1 x2 x3 x5 y0 = some res → ∀ (H : Heap) (locs : List Loc) (ls : Array Slot), va_P (dC, dI) vwCl ((ql_mw h ad cI cZ cJ) z) H → va_S A s.heap H locs → lv_has ls 6 [(0, .ref h), (1, .int x1), (2, .int x2), (3, .int x3), (5, .int x5)] → W p l e rm_X11_areAlike s m args below meth c H locs 0 0 (ql_Qri below A args s res) (F0 m 41 ls [.int y0]) := by
  have C0q := C0
  obtain ⟨hx, hb, hr, hml, hown, hts, hlocks, hK, hA⟩ := C0q
  intro x1 x2 x3 x5 y0 hf H locs ls hP hS hl
  unfold f_X11_areAlike_41 at hf
  refine lv_istore (lv' := [(4, .int y0), (0, .ref h), (1, .int x1), (2, .int x2), (3, .int x3), (5, .int x5)]) hx hb dX11_areAlike_41 hl (by decide) rfl (fun ls hl => ?_)
  refine lv_iinc (v := (x5 + 1)) (lv' := [(5, .int (x5 + 1)), (4, .int y0), (0, .ref h), (1, .int x1), (2, .int x2), (3, .int x3)]) hx hb dX11_areAlike_43 hl (k := 5) rfl rfl (by decide) rfl (fun ls hl => ?_)
  refine lv_goto (tgt := 6) hx hb dX11_areAlike_46 (by decide) ?_
  exact hk6 _ _ _ _ _ hf _ _ _ hP hS (lv_sub hl [2, 3, 4, 5, 1, 0] rfl)
set_option maxHeartbeats 4000000 in
set_option maxRecDepth 100000 in
theorem w_X11_areAlike_40 {p : Program} {l : Launch} {e : Env} {s : State} {m : MethodId} {args : Array Value} {below : List Frame} {meth : Method} {c : Code} {dC : Nat → ClassId} {dI : Nat → Nat → Nat} {A : Nat → Prop} {h : Nat} {ad : Nat → Nat} {cI cZ cJ : ClassId} {res : Int32} (C0 : ql_C p s m args meth c cX11_areAlike 6 (some .boolean) wsX11_areAlike RX11 (dC, dI) [(cI, .int), (cZ, .boolean), (cJ, .long)] A) (N : Nat) (z : ql_Z) (k6 : Int32 → Int32 → Int32 → Int32 → Int32 → Option (Int32)) (hk6 : ∀ (x1 : Int32) (x2 : Int32) (x3 : Int32) (x4 : Int32) (x5 : Int32), k6 x1 x2 x3 x4 x5 = some res → ∀ (H : Heap) (locs : List Loc) (ls : Array Slot), va_P (dC, dI) vwCl ((ql_mw h ad cI cZ cJ) z) H → va_S A s.heap H locs → lv_has ls 6 [(0, .ref h), (1, .int x1), (2, .int x2), (3, .int x3), (4, .int x4), (5, .int x5)] → W p l e rm_X11_areAlike s m args below meth c H locs 0 0 (ql_Qri below A args s res) (F0 m 6 ls [])) : ∀ (x1 : Int32) (x2 : Int32) (x3 : Int32) (x5 : Int32), f_X11_areAlike_40 N z k6 x1 x2 x3 x5 = some res → ∀ (H : Heap) (locs : List Loc) (ls : Array Slot), va_P (dC, dI) vwCl ((ql_mw h ad cI cZ cJ) z) H → va_S A s.heap H locs → lv_has ls 6 [(0, .ref h), (1, .int x1), (2, .int x2), (3, .int x3), (5, .int x5)] → W p l e rm_X11_areAlike s m args below meth c H locs 0 0 (ql_Qri below A args s res) (F0 m 40 ls []) := by
  have C0q := C0
  obtain ⟨hx, hb, hr, hml, hown, hts, hlocks, hK, hA⟩ := C0q
  intro x1 x2 x3 x5 hf H locs ls hP hS hl
  unfold f_X11_areAlike_40 at hf
  refine lv_iconst (v := 0) hx hb dX11_areAlike_40 (by decide) ?_
  exact w_X11_areAlike_41 C0 N z k6 hk6 _ _ _ _ _ hf _ _ _ hP hS (lv_sub hl [0, 1, 2, 3, 4] rfl)
set_option maxHeartbeats 4000000 in
set_option maxRecDepth 100000 in
theorem w_X11_areAlike_6 {p : Program} {l : Launch} {e : Env} {s : State} {m : MethodId} {args : Array Value} {below : List Frame} {meth : Method} {c : Code} {dC : Nat → ClassId} {dI : Nat → Nat → Nat} {A : Nat → Prop} {h : Nat} {ad : Nat → Nat} {cI cZ cJ : ClassId} {res : Int32} (C0 : ql_C p s m args meth c cX11_areAlike 6 (some .boolean) wsX11_areAlike RX11 (dC, dI) [(cI, .int), (cZ, .boolean), (cJ, .long)] A) (N : Nat) (z : ql_Z) : ∀ (n : Nat), ∀ (x1 : Int32) (x2 : Int32) (x3 : Int32) (x4 : Int32) (x5 : Int32), f_X11_areAlike_6 N z n x1 x2 x3 x4 x5 = some res → ∀ (H : Heap) (locs : List Loc) (ls : Array Slot), va_P (dC, dI) vwCl ((ql_mw h ad cI cZ cJ) z) H → va_S A s.heap H locs → lv_has ls 6 [(0, .ref h), (1, .int x1), (2, .int x2), (3, .int x3), (4, .int x4), (5, .int x5)] → W p l e rm_X11_areAlike s m args below meth c H locs 0 0 (ql_Qri below A args s res) (F0 m 6 ls []) := by
  have C0q := C0
  obtain ⟨hx, hb, hr, hml, hown, hts, hlocks, hK, hA⟩ := C0q
  intro n
  induction n with
  | zero =>
    intro x1 x2 x3 x4 x5 hf
    rw [f_X11_areAlike_6] at hf
    cases hf
  | succ n ih =>
    intro x1 x2 x3 x4 x5 hf H locs ls hP hS hl
    rw [f_X11_areAlike_6] at hf
    refine lv_iload hx hb dX11_areAlike_6 (lv_at hl 5 rfl) ?_
    refine lv_iconst (v := 4) hx hb dX11_areAlike_8 (by decide) ?_
    refine lv_icmp_ge (tgt := 49) hx hb dX11_areAlike_9 (by decide) (fun c1 => ?_) (fun c1 => ?_)
    · have hf := (if_pos c1).symm.trans hf
      refine lv_iload hx hb dX11_areAlike_49 (lv_at hl 4 rfl) ?_
      exact ql_rzret C0 (ql_bzo (ql_gt hf)) (ql_gx hf) hS dX11_areAlike_51
    · have hf := (if_neg c1).symm.trans hf
      refine lv_iload hx hb dX11_areAlike_12 (lv_at hl 4 rfl) ?_
      refine lv_if_eq (tgt := 40) hx hb dX11_areAlike_14 (by decide) (fun c2 => ?_) (fun c2 => ?_)
      · have hf := (if_pos c2).symm.trans hf
        exact w_X11_areAlike_40 C0 N z (f_X11_areAlike_6 N z n) ih _ _ _ _ hf _ _ _ hP hS (lv_sub hl [0, 1, 2, 3, 5] rfl)
      · have hf := (if_neg c2).symm.trans hf
        refine lv_aload_n hx hb dX11_areAlike_17 rfl (lv_at hl 0 rfl) ?_
        refine lv_iload_n hx hb dX11_areAlike_18 rfl (lv_at hl 1 rfl) ?_
        refine lv_iload_n hx hb dX11_areAlike_19 rfl (lv_at hl 2 rfl) ?_
        refine lv_iload hx hb dX11_areAlike_20 (lv_at hl 5 rfl) ?_
        obtain ⟨u3, hu3, hf⟩ := ql_bd hf
        refine ql_callRVi (As := [.int x1, .int x2, .int x5]) (rest := []) C0 (c_X11_sees l dC dI h ad cI cZ cJ N z x1 x2 x5 u3 hu3) (cwV 3 hts gX11_areAlike_X11_sees rfl rfl rfl qv_X11_sees ⟨Nat.le_of_ble_eq_true rfl, Nat.le_of_ble_eq_true rfl⟩) (va_recv hK.1 hP (ci := 11) (q0 := 0) rfl rfl) hK hP hS hl.1 rfl rfl (Nat.le_of_ble_eq_true rfl) dX11_areAlike_22 (fun H1 locs hk hS => ?_)
        have hP := ql_keep hP hk
        refine lv_aload_n hx hb dX11_areAlike_25 rfl (lv_at hl 0 rfl) ?_
        refine lv_iload_n hx hb dX11_areAlike_26 rfl (lv_at hl 1 rfl) ?_
        refine lv_iload_n hx hb dX11_areAlike_27 rfl (lv_at hl 3 rfl) ?_
        refine lv_iload hx hb dX11_areAlike_28 (lv_at hl 5 rfl) ?_
        obtain ⟨u4, hu4, hf⟩ := ql_bd hf
        refine ql_callRVi (As := [.int x1, .int x3, .int x5]) (rest := [.int u3]) C0 (c_X11_sees l dC dI h ad cI cZ cJ N z x1 x3 x5 u4 hu4) (cwV 3 hts gX11_areAlike_X11_sees rfl rfl rfl qv_X11_sees ⟨Nat.le_of_ble_eq_true rfl, Nat.le_of_ble_eq_true rfl⟩) (va_recv hK.1 hP (ci := 11) (q0 := 0) rfl rfl) hK hP hS hl.1 rfl rfl (Nat.le_of_ble_eq_true rfl) dX11_areAlike_30 (fun H1 locs hk hS => ?_)
        have hP := ql_keep hP hk
        refine lv_icmp_ne (tgt := 40) hx hb dX11_areAlike_33 (by decide) (fun c5 => ?_) (fun c5 => ?_)
        · have hf := (if_neg c5).symm.trans hf
          exact w_X11_areAlike_40 C0 N z (f_X11_areAlike_6 N z n) ih _ _ _ _ hf _ _ _ hP hS (lv_sub hl [0, 1, 2, 3, 5] rfl)
        · have hf := (if_pos c5).symm.trans hf
          refine lv_iconst (v := 1) hx hb dX11_areAlike_36 (by decide) ?_
          refine lv_goto (tgt := 41) hx hb dX11_areAlike_37 (by decide) ?_
          exact w_X11_areAlike_41 C0 N z (f_X11_areAlike_6 N z n) ih _ _ _ _ _ hf _ _ _ hP hS (lv_sub hl [0, 1, 2, 3, 5] rfl)
set_option maxHeartbeats 4000000 in
set_option maxRecDepth 100000 in
theorem w_X11_areAlike_0 {p : Program} {l : Launch} {e : Env} {s : State} {m : MethodId} {args : Array Value} {below : List Frame} {meth : Method} {c : Code} {dC : Nat → ClassId} {dI : Nat → Nat → Nat} {A : Nat → Prop} {h : Nat} {ad : Nat → Nat} {cI cZ cJ : ClassId} {res : Int32} (C0 : ql_C p s m args meth c cX11_areAlike 6 (some .boolean) wsX11_areAlike RX11 (dC, dI) [(cI, .int), (cZ, .boolean), (cJ, .long)] A) (N : Nat) (z : ql_Z) : ∀ (x1 : Int32) (x2 : Int32) (x3 : Int32), f_X11_areAlike_0 N z x1 x2 x3 = some res → ∀ (H : Heap) (locs : List Loc) (ls : Array Slot), va_P (dC, dI) vwCl ((ql_mw h ad cI cZ cJ) z) H → va_S A s.heap H locs → lv_has ls 6 [(0, .ref h), (1, .int x1), (2, .int x2), (3, .int x3)] → W p l e rm_X11_areAlike s m args below meth c H locs 0 0 (ql_Qri below A args s res) (F0 m 0 ls []) := by
  have C0q := C0
  obtain ⟨hx, hb, hr, hml, hown, hts, hlocks, hK, hA⟩ := C0q
  intro x1 x2 x3 hf H locs ls hP hS hl
  unfold f_X11_areAlike_0 at hf
  refine lv_iconst (v := 1) hx hb dX11_areAlike_0 (by decide) ?_
  refine lv_istore (lv' := [(4, .int 1), (0, .ref h), (1, .int x1), (2, .int x2), (3, .int x3)]) hx hb dX11_areAlike_1 hl (by decide) rfl (fun ls hl => ?_)
  refine lv_iconst (v := 0) hx hb dX11_areAlike_3 (by decide) ?_
  refine lv_istore (lv' := [(5, .int 0), (4, .int 1), (0, .ref h), (1, .int x1), (2, .int x2), (3, .int x3)]) hx hb dX11_areAlike_4 hl (by decide) rfl (fun ls hl => ?_)
  exact w_X11_areAlike_6 C0 N z N _ _ _ _ _ hf _ _ _ hP hS (lv_sub hl [2, 3, 4, 5, 1, 0] rfl)
set_option maxRecDepth 100000 in
theorem c_X11_areAlike (l : Launch) (dC : Nat → ClassId) (dI : Nat → Nat → Nat) (h : Nat) (ad : Nat → Nat) (cI cZ cJ : ClassId) (N : Nat) (z : ql_Z) (x1 : Int32) (x2 : Int32) (x3 : Int32) (res : Int32) (hf : f_X11_areAlike N z x1 x2 x3 = some res) : ql_Ri l yX11_areAlike wsX11_areAlike rm_X11_areAlike (dC, dI) [(cI, .int), (cZ, .boolean), (cJ, .long)] ((ql_mw h ad cI cZ cJ) z) [.ref h, .int x1, .int x2, .int x3] res :=
  ql_start_ri (by decide) rfl (Nat.le_of_ble_eq_true rfl) (fun p e s m below meth c A ls C0 hl hP hS => w_X11_areAlike_0 C0 N z x1 x2 x3 hf s.heap [] ls hP hS (lv_sub (show lv_has ls 6 [(0, .ref h), (1, .int x1), (2, .int x2), (3, .int x3)] from hl) [0, 1, 2, 3] rfl))
/-! ===== TestedLoopsModel.fewest(I)I ===== -/
abbrev rm_X11_fewest : Room := { frames := 3, cells := 0, slots := 0, locals := 72 }
theorem iw_X11_fewest_X11 : ∀ w ∈ wsX110, w ∈ wsX11_fewest := fun w h => List.mem_cons_of_mem _ (List.mem_append_right _ h)
theorem qv_X11_fewest : yX11_fewest.cls = RX11 ∧ yX11_fewest.cls ≠ "java/lang/invoke/MethodHandle" ∧ yX11_fewest.cls ≠ "java/lang/invoke/VarHandle" ∧ (parseMethodDescriptor yX11_fewest.desc).map (fun d => d.parameters.length) = some 1 := by decide +kernel
def f_X11_fewest_183 (N : Nat) (k50 : ql_Z → Int32 → Int32 → Int32 → Int32 → Option (Int32 × ql_Z)) : Nat → ql_Z → Int32 → Int32 → Int32 → Int32 → Int32 → Option (Int32 × ql_Z)
  | 0, _, _, _, _, _, _ => none
  | n + 1, z, x1, x2, x3, x4, x5 => if 17 ≤ x5 then k50 z x1 x2 x3 (x4 + 1) else if ql_ib x5 17 = true then if ql_ib x5 17 = true then f_X11_fewest_183 N k50 n ((ql_up z.1 34 (upd (z.1 34) x5.toNatClampNeg ((z.1 35) x5.toNatClampNeg))), z.2) x1 x2 x3 x4 (x5 + 1) else none else none
def f_X11_fewest_172 (N : Nat) (k50 : ql_Z → Int32 → Int32 → Int32 → Int32 → Option (Int32 × ql_Z)) (k62 : ql_Z → Int32 → Int32 → Int32 → Int32 → Int32 → Option (Int32 × ql_Z)) (z : ql_Z) (x1 : Int32) (x2 : Int32) (x4 : Int32) (x5 : Int32) (y0 : Int32) (y1 : Int32) : Option (Int32 × ql_Z) := k62 z x1 x2 (y1 + y0) x4 (x5 + 1)
def f_X11_fewest_171 (N : Nat) (k50 : ql_Z → Int32 → Int32 → Int32 → Int32 → Option (Int32 × ql_Z)) (k62 : ql_Z → Int32 → Int32 → Int32 → Int32 → Int32 → Option (Int32 × ql_Z)) (z : ql_Z) (x1 : Int32) (x2 : Int32) (x4 : Int32) (x5 : Int32) (y0 : Int32) : Option (Int32 × ql_Z) := f_X11_fewest_172 N k50 k62 z x1 x2 x4 x5 0 y0
def f_X11_fewest_140 (N : Nat) (k50 : ql_Z → Int32 → Int32 → Int32 → Int32 → Option (Int32 × ql_Z)) (k62 : ql_Z → Int32 → Int32 → Int32 → Int32 → Int32 → Option (Int32 × ql_Z)) (z : ql_Z) (x1 : Int32) (x2 : Int32) (x3 : Int32) (x4 : Int32) (x5 : Int32) (x6 : Int32) : Option (Int32 × ql_Z) := if ql_ib x5 17 = true then if x6 = x5 then if ((x2 >>> (x5 &&& 31)) &&& 1) = 1 then f_X11_fewest_172 N k50 k62 ((ql_up z.1 35 (upd (z.1 35) x5.toNatClampNeg x6)), z.2) x1 x2 x4 x5 1 x3 else f_X11_fewest_171 N k50 k62 ((ql_up z.1 35 (upd (z.1 35) x5.toNatClampNeg x6)), z.2) x1 x2 x4 x5 x3 else f_X11_fewest_171 N k50 k62 ((ql_up z.1 35 (upd (z.1 35) x5.toNatClampNeg x6)), z.2) x1 x2 x4 x5 x3 else none
def f_X11_fewest_132 (N : Nat) (k50 : ql_Z → Int32 → Int32 → Int32 → Int32 → Option (Int32 × ql_Z)) (k62 : ql_Z → Int32 → Int32 → Int32 → Int32 → Int32 → Option (Int32 × ql_Z)) (k83 : ql_Z → Int32 → Int32 → Int32 → Int32 → Int32 → Int32 → Int32 → Option (Int32 × ql_Z)) (z : ql_Z) (x1 : Int32) (x2 : Int32) (x3 : Int32) (x4 : Int32) (x5 : Int32) (x7 : Int32) (y0 : Int32) : Option (Int32 × ql_Z) := k83 z x1 x2 x3 x4 x5 y0 (x7 + (-1))
def f_X11_fewest_130 (N : Nat) (k50 : ql_Z → Int32 → Int32 → Int32 → Int32 → Option (Int32 × ql_Z)) (k62 : ql_Z → Int32 → Int32 → Int32 → Int32 → Int32 → Option (Int32 × ql_Z)) (k83 : ql_Z → Int32 → Int32 → Int32 → Int32 → Int32 → Int32 → Int32 → Option (Int32 × ql_Z)) (z : ql_Z) (x1 : Int32) (x2 : Int32) (x3 : Int32) (x4 : Int32) (x5 : Int32) (x6 : Int32) (x7 : Int32) : Option (Int32 × ql_Z) := f_X11_fewest_132 N k50 k62 k83 z x1 x2 x3 x4 x5 x7 x6
def f_X11_fewest_83 (N : Nat) (k50 : ql_Z → Int32 → Int32 → Int32 → Int32 → Option (Int32 × ql_Z)) (k62 : ql_Z → Int32 → Int32 → Int32 → Int32 → Int32 → Option (Int32 × ql_Z)) : Nat → ql_Z → Int32 → Int32 → Int32 → Int32 → Int32 → Int32 → Int32 → Option (Int32 × ql_Z)
  | 0, _, _, _, _, _, _, _, _ => none
  | n + 1, z, x1, x2, x3, x4, x5, x6, x7 => if x7 < 0 then f_X11_fewest_140 N k50 k62 z x1 x2 x3 x4 x5 x6 else if ((x2 >>> (x5 &&& 31)) &&& 1) = 1 then if ((x2 >>> (x7 &&& 31)) &&& 1) = 1 then (f_X11_areAlike N z x1 x5 x7).bind fun u7 => if u7 = 0 then f_X11_fewest_130 N k50 k62 (f_X11_fewest_83 N k50 k62 n) z x1 x2 x3 x4 x5 x6 x7 else if ql_ib x7 17 = true then f_X11_fewest_132 N k50 k62 (f_X11_fewest_83 N k50 k62 n) z x1 x2 x3 x4 x5 x7 ((z.1 35) x7.toNatClampNeg) else none else f_X11_fewest_130 N k50 k62 (f_X11_fewest_83 N k50 k62 n) z x1 x2 x3 x4 x5 x6 x7 else f_X11_fewest_140 N k50 k62 z x1 x2 x3 x4 x5 x6
def f_X11_fewest_62 (N : Nat) (k50 : ql_Z → Int32 → Int32 → Int32 → Int32 → Option (Int32 × ql_Z)) : Nat → ql_Z → Int32 → Int32 → Int32 → Int32 → Int32 → Option (Int32 × ql_Z)
  | 0, _, _, _, _, _, _ => none
  | n + 1, z, x1, x2, x3, x4, x5 => if ql_ib x1 5 = true then if ((z.1 9) x1.toNatClampNeg) < x5 then f_X11_fewest_183 N k50 N z x1 x2 x3 x4 0 else f_X11_fewest_83 N k50 (f_X11_fewest_62 N k50 n) N z x1 x2 x3 x4 x5 x5 (x5 - 1) else none
def f_X11_fewest_50 (N : Nat) : Nat → ql_Z → Int32 → Int32 → Int32 → Int32 → Option (Int32 × ql_Z)
  | 0, _, _, _, _, _ => none
  | n + 1, z, x1, x2, x3, x4 => if 17 < x4 then some (x3, z) else f_X11_fewest_62 N (f_X11_fewest_50 N n) N z x1 x2 0 x4 0
def f_X11_fewest_26 (N : Nat) : Nat → ql_Z → Int32 → Int32 → Int32 → Option (Int32 × ql_Z)
  | 0, _, _, _, _ => none
  | n + 1, z, x1, x2, x3 => if 17 ≤ x3 then f_X11_fewest_50 N N z x1 x2 0 0 else if ql_ib x3 17 = true then f_X11_fewest_26 N n ((ql_up z.1 34 (upd (z.1 34) x3.toNatClampNeg 0)), z.2) x1 x2 (x3 + 1) else none
def f_X11_fewest_0 (N : Nat) (z : ql_Z) (x1 : Int32) : Option (Int32 × ql_Z) := (f_X11_isProgram N x1).bind fun u12 => if u12 = 0 then some ((-1), z) else (f_X11_surveys N z x1).bind fun u14 => f_X11_fewest_26 N N u14 x1 ((u14.1 32 0) &&& (u14.1 33 0)) 0
def f_X11_fewest (N : Nat) (z : ql_Z) (x1 : Int32) : Option (Int32 × ql_Z) := f_X11_fewest_0 N z x1
set_option maxHeartbeats 4000000 in
set_option maxRecDepth 100000 in
theorem w_X11_fewest_183 {p : Program} {l : Launch} {e : Env} {s : State} {m : MethodId} {args : Array Value} {below : List Frame} {meth : Method} {c : Code} {dC : Nat → ClassId} {dI : Nat → Nat → Nat} {A : Nat → Prop} {h : Nat} {ad : Nat → Nat} {cI cZ cJ : ClassId} {res : Int32 × ql_Z} (C0 : ql_C p s m args meth c cX11_fewest 8 (some .int) wsX11_fewest RX11 (dC, dI) [(cI, .int), (cZ, .boolean), (cJ, .long)] A) (N : Nat) (k50 : ql_Z → Int32 → Int32 → Int32 → Int32 → Option (Int32 × ql_Z)) (hk50 : ∀ (z : ql_Z) (x1 : Int32) (x2 : Int32) (x3 : Int32) (x4 : Int32), k50 z x1 x2 x3 x4 = some res → ∀ (H : Heap) (locs : List Loc) (ls : Array Slot), va_P (dC, dI) vwCl ((ql_mw h ad cI cZ cJ) z) H → va_D A ((ql_mw h ad cI cZ cJ) z) → va_S A s.heap H locs → lv_has ls 8 [(0, .ref h), (1, .int x1), (2, .int x2), (3, .int x3), (4, .int x4)] → W p l e rm_X11_fewest s m args below meth c H locs 0 0 (ql_Qi below (dC, dI) (ql_mw h ad cI cZ cJ) A args s res) (F0 m 50 ls [])) : ∀ (n : Nat), ∀ (z : ql_Z) (x1 : Int32) (x2 : Int32) (x3 : Int32) (x4 : Int32) (x5 : Int32), f_X11_fewest_183 N k50 n z x1 x2 x3 x4 x5 = some res → ∀ (H : Heap) (locs : List Loc) (ls : Array Slot), va_P (dC, dI) vwCl ((ql_mw h ad cI cZ cJ) z) H → va_D A ((ql_mw h ad cI cZ cJ) z) → va_S A s.heap H locs → lv_has ls 8 [(0, .ref h), (1, .int x1), (2, .int x2), (3, .int x3), (4, .int x4), (5, .int x5)] → W p l e rm_X11_fewest s m args below meth c H locs 0 0 (ql_Qi below (dC, dI) (ql_mw h ad cI cZ cJ) A args s res) (F0 m 183 ls []) := by
  have C0q := C0
  obtain ⟨hx, hb, hr, hml, hown, hts, hlocks, hK, hA⟩ := C0q
  have fl77 := hts (Cond.fieldLink RX11 77 "TestedLoopsModel" "group" "[I") (by decide +kernel)
  have fl80 := hts (Cond.fieldLink RX11 80 "TestedLoopsModel" "newGroup" "[I") (by decide +kernel)
  intro n
  induction n with
  | zero =>
    intro z x1 x2 x3 x4 x5 hf
    rw [f_X11_fewest_183] at hf
    cases hf
  | succ n ih =>
    intro z x1 x2 x3 x4 x5 hf H locs ls hP hD hS hl
    rw [f_X11_fewest_183] at hf
    refine lv_iload hx hb dX11_fewest_183 (lv_at hl 5 rfl) ?_
    refine lv_bipush (v := 17) hx hb dX11_fewest_185 (by decide) ?_
    refine lv_icmp_ge (tgt := 210) hx hb dX11_fewest_187 (by decide) (fun c1 => ?_) (fun c1 => ?_)
    · have hf := (if_pos c1).symm.trans hf
      refine lv_iinc (v := (x4 + 1)) (lv' := [(4, .int (x4 + 1)), (0, .ref h), (1, .int x1), (2, .int x2), (3, .int x3), (5, .int x5)]) hx hb dX11_fewest_210 hl (k := 4) rfl rfl (by decide) rfl (fun ls hl => ?_)
      refine lv_goto (tgt := 50) hx hb dX11_fewest_213 (by decide) ?_
      exact hk50 _ _ _ _ _ hf _ _ _ hP hD hS (lv_sub hl [1, 2, 3, 4, 0] rfl)
    · have hf := (if_neg c1).symm.trans hf
      refine lv_aload_n hx hb dX11_fewest_190 rfl (lv_at hl 0 rfl) ?_
      refine va_get (D := (dC, dI)) (ci := 11) (v := .ref (ad 34)) (C := RX11) (T := TX11) (N := 41) hx hb hts iw_X11_fewest_X11 hown hK.1 hP 0 rfl rfl 34 (by decide) fl77 (fun _ h9 => h9) rfl dX11_fewest_191 ?_
      refine lv_iload hx hb dX11_fewest_194 (lv_at hl 5 rfl) ?_
      refine lv_aload_n hx hb dX11_fewest_196 rfl (lv_at hl 0 rfl) ?_
      refine va_get (D := (dC, dI)) (ci := 11) (v := .ref (ad 35)) (C := RX11) (T := TX11) (N := 41) hx hb hts iw_X11_fewest_X11 hown hK.1 hP 0 rfl rfl 35 (by decide) fl80 (fun _ h9 => h9) rfl dX11_fewest_197 ?_
      refine lv_iload hx hb dX11_fewest_200 (lv_at hl 5 rfl) ?_
      have g0 := ql_in (ql_gt hf)
      have hf := ql_gx hf
      refine va_iald (f := (z.1 35)) hx hb hK.1 hP 24 0 rfl rfl g0 dX11_fewest_202 ?_
      have g0 := ql_in (ql_gt hf)
      have hf := ql_gx hf
      refine va_iast (f := (z.1 34)) hx hb hK.1 hP hD hS 23 0 rfl rfl g0 dX11_fewest_203 (fun H locs hP hD hS => ?_)
      refine lv_iinc (v := (x5 + 1)) (lv' := [(5, .int (x5 + 1)), (0, .ref h), (1, .int x1), (2, .int x2), (3, .int x3), (4, .int x4)]) hx hb dX11_fewest_204 hl (k := 5) rfl rfl (by decide) rfl (fun ls hl => ?_)
      refine lv_goto (tgt := 183) hx hb dX11_fewest_207 (by decide) ?_
      exact ih _ _ _ _ _ _ hf _ _ _ hP hD hS (lv_sub hl [1, 2, 3, 4, 5, 0] rfl)
set_option maxHeartbeats 4000000 in
set_option maxRecDepth 100000 in
theorem w_X11_fewest_172 {p : Program} {l : Launch} {e : Env} {s : State} {m : MethodId} {args : Array Value} {below : List Frame} {meth : Method} {c : Code} {dC : Nat → ClassId} {dI : Nat → Nat → Nat} {A : Nat → Prop} {h : Nat} {ad : Nat → Nat} {cI cZ cJ : ClassId} {res : Int32 × ql_Z} (C0 : ql_C p s m args meth c cX11_fewest 8 (some .int) wsX11_fewest RX11 (dC, dI) [(cI, .int), (cZ, .boolean), (cJ, .long)] A) (N : Nat) (k50 : ql_Z → Int32 → Int32 → Int32 → Int32 → Option (Int32 × ql_Z)) (hk50 : ∀ (z : ql_Z) (x1 : Int32) (x2 : Int32) (x3 : Int32) (x4 : Int32), k50 z x1 x2 x3 x4 = some res → ∀ (H : Heap) (locs : List Loc) (ls : Array Slot), va_P (dC, dI) vwCl ((ql_mw h ad cI cZ cJ) z) H → va_D A ((ql_mw h ad cI cZ cJ) z) → va_S A s.heap H locs → lv_has ls 8 [(0, .ref h), (1, .int x1), (2, .int x2), (3, .int x3), (4, .int x4)] → W p l e rm_X11_fewest s m args below meth c H locs 0 0 (ql_Qi below (dC, dI) (ql_mw h ad cI cZ cJ) A args s res) (F0 m 50 ls [])) (k62 : ql_Z → Int32 → Int32 → Int32 → Int32 → Int32 → Option (Int32 × ql_Z)) (hk62 : ∀ (z : ql_Z) (x1 : Int32) (x2 : Int32) (x3 : Int32) (x4 : Int32) (x5 : Int32), k62 z x1 x2 x3 x4 x5 = some res → ∀ (H : Heap) (locs : List Loc) (ls : Array Slot), va_P (dC, dI) vwCl ((ql_mw h ad cI cZ cJ) z) H → va_D A ((ql_mw h ad cI cZ cJ) z) → va_S A s.heap H locs → lv_has ls 8 [(0, .ref h), (1, .int x1), (2, .int x2), (3, .int x3), (4, .int x4), (5, .int x5)] → W p l e rm_X11_fewest s m args below meth c H locs 0 0 (ql_Qi below (dC, dI) (ql_mw h ad cI cZ cJ) A args s res) (F0 m 62 ls [])) : ∀ (z : ql_Z) (x1 : Int32) (x2 : Int32) (x4 : Int32) (x5 : Int32) (y0 : Int32) (y1 : Int32), f_X11_fewest_172 N k50 k62 z x1 x2 x4 x5 y0 y1 = some res → ∀ (H : Heap) (locs : List Loc) (ls : Array Slot), va_P (dC, dI) vwCl ((ql_mw h ad cI cZ cJ) z) H → va_D A ((ql_mw h ad cI cZ cJ) z) → va_S A s.heap H locs → lv_has ls 8 [(0, .ref h), (1, .int x1), (2, .int x2), (4, .int x4), (5, .int x5)] → W p l e rm_X11_fewest s m args below meth c H locs 0 0 (ql_Qi below (dC, dI) (ql_mw h ad cI cZ cJ) A args s res) (F0 m 172 ls [.int y0, .int y1]) := by
  have C0q := C0
  obtain ⟨hx, hb, hr, hml, hown, hts, hlocks, hK, hA⟩ := C0q
  intro z x1 x2 x4 x5 y0 y1 hf H locs ls hP hD hS hl
  unfold f_X11_fewest_172 at hf
  refine lv_iadd hx hb dX11_fewest_172 ?_
  refine lv_istore_n (lv' := [(3, .int (y1 + y0)), (0, .ref h), (1, .int x1), (2, .int x2), (4, .int x4), (5, .int x5)]) hx hb dX11_fewest_173 rfl hl (by decide) rfl (fun ls hl => ?_)
  refine lv_iinc (v := (x5 + 1)) (lv' := [(5, .int (x5 + 1)), (3, .int (y1 + y0)), (0, .ref h), (1, .int x1), (2, .int x2), (4, .int x4)]) hx hb dX11_fewest_174 hl (k := 5) rfl rfl (by decide) rfl (fun ls hl => ?_)
  refine lv_goto (tgt := 62) hx hb dX11_fewest_177 (by decide) ?_
  exact hk62 _ _ _ _ _ _ hf _ _ _ hP hD hS (lv_sub hl [2, 3, 4, 1, 5, 0] rfl)
set_option maxHeartbeats 4000000 in
set_option maxRecDepth 100000 in
theorem w_X11_fewest_171 {p : Program} {l : Launch} {e : Env} {s : State} {m : MethodId} {args : Array Value} {below : List Frame} {meth : Method} {c : Code} {dC : Nat → ClassId} {dI : Nat → Nat → Nat} {A : Nat → Prop} {h : Nat} {ad : Nat → Nat} {cI cZ cJ : ClassId} {res : Int32 × ql_Z} (C0 : ql_C p s m args meth c cX11_fewest 8 (some .int) wsX11_fewest RX11 (dC, dI) [(cI, .int), (cZ, .boolean), (cJ, .long)] A) (N : Nat) (k50 : ql_Z → Int32 → Int32 → Int32 → Int32 → Option (Int32 × ql_Z)) (hk50 : ∀ (z : ql_Z) (x1 : Int32) (x2 : Int32) (x3 : Int32) (x4 : Int32), k50 z x1 x2 x3 x4 = some res → ∀ (H : Heap) (locs : List Loc) (ls : Array Slot), va_P (dC, dI) vwCl ((ql_mw h ad cI cZ cJ) z) H → va_D A ((ql_mw h ad cI cZ cJ) z) → va_S A s.heap H locs → lv_has ls 8 [(0, .ref h), (1, .int x1), (2, .int x2), (3, .int x3), (4, .int x4)] → W p l e rm_X11_fewest s m args below meth c H locs 0 0 (ql_Qi below (dC, dI) (ql_mw h ad cI cZ cJ) A args s res) (F0 m 50 ls [])) (k62 : ql_Z → Int32 → Int32 → Int32 → Int32 → Int32 → Option (Int32 × ql_Z)) (hk62 : ∀ (z : ql_Z) (x1 : Int32) (x2 : Int32) (x3 : Int32) (x4 : Int32) (x5 : Int32), k62 z x1 x2 x3 x4 x5 = some res → ∀ (H : Heap) (locs : List Loc) (ls : Array Slot), va_P (dC, dI) vwCl ((ql_mw h ad cI cZ cJ) z) H → va_D A ((ql_mw h ad cI cZ cJ) z) → va_S A s.heap H locs → lv_has ls 8 [(0, .ref h), (1, .int x1), (2, .int x2), (3, .int x3), (4, .int x4), (5, .int x5)] → W p l e rm_X11_fewest s m args below meth c H locs 0 0 (ql_Qi below (dC, dI) (ql_mw h ad cI cZ cJ) A args s res) (F0 m 62 ls [])) : ∀ (z : ql_Z) (x1 : Int32) (x2 : Int32) (x4 : Int32) (x5 : Int32) (y0 : Int32), f_X11_fewest_171 N k50 k62 z x1 x2 x4 x5 y0 = some res → ∀ (H : Heap) (locs : List Loc) (ls : Array Slot), va_P (dC, dI) vwCl ((ql_mw h ad cI cZ cJ) z) H → va_D A ((ql_mw h ad cI cZ cJ) z) → va_S A s.heap H locs → lv_has ls 8 [(0, .ref h), (1, .int x1), (2, .int x2), (4, .int x4), (5, .int x5)] → W p l e rm_X11_fewest s m args below meth c H locs 0 0 (ql_Qi below (dC, dI) (ql_mw h ad cI cZ cJ) A args s res) (F0 m 171 ls [.int y0]) := by
  have C0q := C0
  obtain ⟨hx, hb, hr, hml, hown, hts, hlocks, hK, hA⟩ := C0q
  intro z x1 x2 x4 x5 y0 hf H locs ls hP hD hS hl
  unfold f_X11_fewest_171 at hf
  refine lv_iconst (v := 0) hx hb dX11_fewest_171 (by decide) ?_
  exact w_X11_fewest_172 C0 N k50 hk50 k62 hk62 _ _ _ _ _ _ _ hf _ _ _ hP hD hS (lv_sub hl [0, 1, 2, 3, 4] rfl)
set_option maxHeartbeats 4000000 in
set_option maxRecDepth 100000 in
theorem w_X11_fewest_140 {p : Program} {l : Launch} {e : Env} {s : State} {m : MethodId} {args : Array Value} {below : List Frame} {meth : Method} {c : Code} {dC : Nat → ClassId} {dI : Nat → Nat → Nat} {A : Nat → Prop} {h : Nat} {ad : Nat → Nat} {cI cZ cJ : ClassId} {res : Int32 × ql_Z} (C0 : ql_C p s m args meth c cX11_fewest 8 (some .int) wsX11_fewest RX11 (dC, dI) [(cI, .int), (cZ, .boolean), (cJ, .long)] A) (N : Nat) (k50 : ql_Z → Int32 → Int32 → Int32 → Int32 → Option (Int32 × ql_Z)) (hk50 : ∀ (z : ql_Z) (x1 : Int32) (x2 : Int32) (x3 : Int32) (x4 : Int32), k50 z x1 x2 x3 x4 = some res → ∀ (H : Heap) (locs : List Loc) (ls : Array Slot), va_P (dC, dI) vwCl ((ql_mw h ad cI cZ cJ) z) H → va_D A ((ql_mw h ad cI cZ cJ) z) → va_S A s.heap H locs → lv_has ls 8 [(0, .ref h), (1, .int x1), (2, .int x2), (3, .int x3), (4, .int x4)] → W p l e rm_X11_fewest s m args below meth c H locs 0 0 (ql_Qi below (dC, dI) (ql_mw h ad cI cZ cJ) A args s res) (F0 m 50 ls [])) (k62 : ql_Z → Int32 → Int32 → Int32 → Int32 → Int32 → Option (Int32 × ql_Z)) (hk62 : ∀ (z : ql_Z) (x1 : Int32) (x2 : Int32) (x3 : Int32) (x4 : Int32) (x5 : Int32), k62 z x1 x2 x3 x4 x5 = some res → ∀ (H : Heap) (locs : List Loc) (ls : Array Slot), va_P (dC, dI) vwCl ((ql_mw h ad cI cZ cJ) z) H → va_D A ((ql_mw h ad cI cZ cJ) z) → va_S A s.heap H locs → lv_has ls 8 [(0, .ref h), (1, .int x1), (2, .int x2), (3, .int x3), (4, .int x4), (5, .int x5)] → W p l e rm_X11_fewest s m args below meth c H locs 0 0 (ql_Qi below (dC, dI) (ql_mw h ad cI cZ cJ) A args s res) (F0 m 62 ls [])) : ∀ (z : ql_Z) (x1 : Int32) (x2 : Int32) (x3 : Int32) (x4 : Int32) (x5 : Int32) (x6 : Int32), f_X11_fewest_140 N k50 k62 z x1 x2 x3 x4 x5 x6 = some res → ∀ (H : Heap) (locs : List Loc) (ls : Array Slot), va_P (dC, dI) vwCl ((ql_mw h ad cI cZ cJ) z) H → va_D A ((ql_mw h ad cI cZ cJ) z) → va_S A s.heap H locs → lv_has ls 8 [(0, .ref h), (1, .int x1), (2, .int x2), (3, .int x3), (4, .int x4), (5, .int x5), (6, .int x6)] → W p l e rm_X11_fewest s m args below meth c H locs 0 0 (ql_Qi below (dC, dI) (ql_mw h ad cI cZ cJ) A args s res) (F0 m 140 ls []) := by
  have C0q := C0
  obtain ⟨hx, hb, hr, hml, hown, hts, hlocks, hK, hA⟩ := C0q
  have fl80 := hts (Cond.fieldLink RX11 80 "TestedLoopsModel" "newGroup" "[I") (by decide +kernel)
  intro z x1 x2 x3 x4 x5 x6 hf H locs ls hP hD hS hl
  unfold f_X11_fewest_140 at hf
  refine lv_aload_n hx hb dX11_fewest_140 rfl (lv_at hl 0 rfl) ?_
  refine va_get (D := (dC, dI)) (ci := 11) (v := .ref (ad 35)) (C := RX11) (T := TX11) (N := 41) hx hb hts iw_X11_fewest_X11 hown hK.1 hP 0 rfl rfl 35 (by decide) fl80 (fun _ h9 => h9) rfl dX11_fewest_141 ?_
  refine lv_iload hx hb dX11_fewest_144 (lv_at hl 5 rfl) ?_
  refine lv_iload hx hb dX11_fewest_146 (lv_at hl 6 rfl) ?_
  have g0 := ql_in (ql_gt hf)
  have hf := ql_gx hf
  refine va_iast (f := (z.1 35)) hx hb hK.1 hP hD hS 24 0 rfl rfl g0 dX11_fewest_148 (fun H locs hP hD hS => ?_)
  refine lv_iload_n hx hb dX11_fewest_149 rfl (lv_at hl 3 rfl) ?_
  refine lv_iload hx hb dX11_fewest_150 (lv_at hl 6 rfl) ?_
  refine lv_iload hx hb dX11_fewest_152 (lv_at hl 5 rfl) ?_
  refine lv_icmp_ne (tgt := 171) hx hb dX11_fewest_154 (by decide) (fun c2 => ?_) (fun c2 => ?_)
  · have hf := (if_neg c2).symm.trans hf
    exact w_X11_fewest_171 C0 N k50 hk50 k62 hk62 _ _ _ _ _ _ hf _ _ _ hP hD hS (lv_sub hl [0, 1, 2, 4, 5] rfl)
  · have hf := (if_pos c2).symm.trans hf
    refine lv_iload_n hx hb dX11_fewest_157 rfl (lv_at hl 2 rfl) ?_
    refine lv_iload hx hb dX11_fewest_158 (lv_at hl 5 rfl) ?_
    refine lv_ishr hx hb dX11_fewest_160 ?_
    refine lv_iconst (v := 1) hx hb dX11_fewest_161 (by decide) ?_
    refine lv_iand hx hb dX11_fewest_162 ?_
    refine lv_iconst (v := 1) hx hb dX11_fewest_163 (by decide) ?_
    refine lv_icmp_ne (tgt := 171) hx hb dX11_fewest_164 (by decide) (fun c3 => ?_) (fun c3 => ?_)
    · have hf := (if_neg c3).symm.trans hf
      exact w_X11_fewest_171 C0 N k50 hk50 k62 hk62 _ _ _ _ _ _ hf _ _ _ hP hD hS (lv_sub hl [0, 1, 2, 4, 5] rfl)
    · have hf := (if_pos c3).symm.trans hf
      refine lv_iconst (v := 1) hx hb dX11_fewest_167 (by decide) ?_
      refine lv_goto (tgt := 172) hx hb dX11_fewest_168 (by decide) ?_
      exact w_X11_fewest_172 C0 N k50 hk50 k62 hk62 _ _ _ _ _ _ _ hf _ _ _ hP hD hS (lv_sub hl [0, 1, 2, 4, 5] rfl)
set_option maxHeartbeats 4000000 in
set_option maxRecDepth 100000 in
theorem w_X11_fewest_132 {p : Program} {l : Launch} {e : Env} {s : State} {m : MethodId} {args : Array Value} {below : List Frame} {meth : Method} {c : Code} {dC : Nat → ClassId} {dI : Nat → Nat → Nat} {A : Nat → Prop} {h : Nat} {ad : Nat → Nat} {cI cZ cJ : ClassId} {res : Int32 × ql_Z} (C0 : ql_C p s m args meth c cX11_fewest 8 (some .int) wsX11_fewest RX11 (dC, dI) [(cI, .int), (cZ, .boolean), (cJ, .long)] A) (N : Nat) (k50 : ql_Z → Int32 → Int32 → Int32 → Int32 → Option (Int32 × ql_Z)) (hk50 : ∀ (z : ql_Z) (x1 : Int32) (x2 : Int32) (x3 : Int32) (x4 : Int32), k50 z x1 x2 x3 x4 = some res → ∀ (H : Heap) (locs : List Loc) (ls : Array Slot), va_P (dC, dI) vwCl ((ql_mw h ad cI cZ cJ) z) H → va_D A ((ql_mw h ad cI cZ cJ) z) → va_S A s.heap H locs → lv_has ls 8 [(0, .ref h), (1, .int x1), (2, .int x2), (3, .int x3), (4, .int x4)] → W p l e rm_X11_fewest s m args below meth c H locs 0 0 (ql_Qi below (dC, dI) (ql_mw h ad cI cZ cJ) A args s res) (F0 m 50 ls [])) (k62 : ql_Z → Int32 → Int32 → Int32 → Int32 → Int32 → Option (Int32 × ql_Z)) (hk62 : ∀ (z : ql_Z) (x1 : Int32) (x2 : Int32) (x3 : Int32) (x4 : Int32) (x5 : Int32), k62 z x1 x2 x3 x4 x5 = some res → ∀ (H : Heap) (locs : List Loc) (ls : Array Slot), va_P (dC, dI) vwCl ((ql_mw h ad cI cZ cJ) z) H → va_D A ((ql_mw h ad cI cZ cJ) z) → va_S A s.heap H locs → lv_has ls 8 [(0, .ref h), (1, .int x1), (2, .int x2), (3, .int x3), (4, .int x4), (5, .int x5)] → W p l e rm_X11_fewest s m args below meth c H locs 0 0 (ql_Qi below (dC, dI) (ql_mw h ad cI cZ cJ) A args s res) (F0 m 62 ls [])) (k83 : ql_Z → Int32 → Int32 → Int32 → Int32 → Int32 → Int32 → Int32 → Option (Int32 × ql_Z)) (hk83 : ∀ (z : ql_Z) (x1 : Int32) (x2 : Int32) (x3 : Int32) (x4 : Int32) (x5 : Int32) (x6 : Int32) (x7 : Int32), k83 z x1 x2 x3 x4 x5 x6 x7 = some res → ∀ (H : Heap) (locs : List Loc) (ls : Array Slot), va_P (dC, dI) vwCl ((ql_mw h ad cI cZ cJ) z) H → va_D A ((ql_mw h ad cI cZ cJ) z) → va_S A s.heap H locs → lv_has ls 8 [(0, .ref h), (1, .int x1), (2, .int x2), (3, .int x3), (4, .int x4), (5, .int x5), (6, .int x6), (7, .int x7)] → W p l e rm_X11_fewest s m args below meth c H locs 0 0 (ql_Qi below (dC, dI) (ql_mw h ad cI cZ cJ) A args s res) (F0 m 83 ls [])) : ∀ (z : ql_Z) (x1 : Int32) (x2 : Int32) (x3 : Int32) (x4 : Int32) (x5 : Int32) (x7 : Int32) (y0 : Int32), f_X11_fewest_132 N k50 k62 k83 z x1 x2 x3 x4 x5 x7 y0 = some res → ∀ (H : Heap) (locs : List Loc) (ls : Array Slot), va_P (dC, dI) vwCl ((ql_mw h ad cI cZ cJ) z) H → va_D A ((ql_mw h ad cI cZ cJ) z) → va_S A s.heap H locs → lv_has ls 8 [(0, .ref h), (1, .int x1), (2, .int x2), (3, .int x3), (4, .int x4), (5, .int x5), (7, .int x7)] → W p l e rm_X11_fewest s m args below meth c H locs 0 0 (ql_Qi below (dC, dI) (ql_mw h ad cI cZ cJ) A args s res) (F0 m 132 ls [.int y0]) := by
  have C0q := C0
  obtain ⟨hx, hb, hr, hml, hown, hts, hlocks, hK, hA⟩ := C0q
  intro z x1 x2 x3 x4 x5 x7 y0 hf H locs ls hP hD hS hl
  unfold f_X11_fewest_132 at hf
  refine lv_istore (lv' := [(6, .int y0), (0, .ref h), (1, .int x1), (2, .int x2), (3, .int x3), (4, .int x4), (5, .int x5), (7, .int x7)]) hx hb dX11_fewest_132 hl (by decide) rfl (fun ls hl => ?_)
  refine lv_iinc (v := (x7 + (-1))) (lv' := [(7, .int (x7 + (-1))), (6, .int y0), (0, .ref h), (1, .int x1), (2, .int x2), (3, .int x3), (4, .int x4), (5, .int x5)]) hx hb dX11_fewest_134 hl (k := 7) rfl rfl (by decide) rfl (fun ls hl => ?_)
  refine lv_goto (tgt := 83) hx hb dX11_fewest_137 (by decide) ?_
  exact hk83 _ _ _ _ _ _ _ _ hf _ _ _ hP hD hS (lv_sub hl [2, 3, 4, 5, 6, 7, 1, 0] rfl)
set_option maxHeartbeats 4000000 in
set_option maxRecDepth 100000 in
theorem w_X11_fewest_130 {p : Program} {l : Launch} {e : Env} {s : State} {m : MethodId} {args : Array Value} {below : List Frame} {meth : Method} {c : Code} {dC : Nat → ClassId} {dI : Nat → Nat → Nat} {A : Nat → Prop} {h : Nat} {ad : Nat → Nat} {cI cZ cJ : ClassId} {res : Int32 × ql_Z} (C0 : ql_C p s m args meth c cX11_fewest 8 (some .int) wsX11_fewest RX11 (dC, dI) [(cI, .int), (cZ, .boolean), (cJ, .long)] A) (N : Nat) (k50 : ql_Z → Int32 → Int32 → Int32 → Int32 → Option (Int32 × ql_Z)) (hk50 : ∀ (z : ql_Z) (x1 : Int32) (x2 : Int32) (x3 : Int32) (x4 : Int32), k50 z x1 x2 x3 x4 = some res → ∀ (H : Heap) (locs : List Loc) (ls : Array Slot), va_P (dC, dI) vwCl ((ql_mw h ad cI cZ cJ) z) H → va_D A ((ql_mw h ad cI cZ cJ) z) → va_S A s.heap H locs → lv_has ls 8 [(0, .ref h), (1, .int x1), (2, .int x2), (3, .int x3), (4, .int x4)] → W p l e rm_X11_fewest s m args below meth c H locs 0 0 (ql_Qi below (dC, dI) (ql_mw h ad cI cZ cJ) A args s res) (F0 m 50 ls [])) (k62 : ql_Z → Int32 → Int32 → Int32 → Int32 → Int32 → Option (Int32 × ql_Z)) (hk62 : ∀ (z : ql_Z) (x1 : Int32) (x2 : Int32) (x3 : Int32) (x4 : Int32) (x5 : Int32), k62 z x1 x2 x3 x4 x5 = some res → ∀ (H : Heap) (locs : List Loc) (ls : Array Slot), va_P (dC, dI) vwCl ((ql_mw h ad cI cZ cJ) z) H → va_D A ((ql_mw h ad cI cZ cJ) z) → va_S A s.heap H locs → lv_has ls 8 [(0, .ref h), (1, .int x1), (2, .int x2), (3, .int x3), (4, .int x4), (5, .int x5)] → W p l e rm_X11_fewest s m args below meth c H locs 0 0 (ql_Qi below (dC, dI) (ql_mw h ad cI cZ cJ) A args s res) (F0 m 62 ls [])) (k83 : ql_Z → Int32 → Int32 → Int32 → Int32 → Int32 → Int32 → Int32 → Option (Int32 × ql_Z)) (hk83 : ∀ (z : ql_Z) (x1 : Int32) (x2 : Int32) (x3 : Int32) (x4 : Int32) (x5 : Int32) (x6 : Int32) (x7 : Int32), k83 z x1 x2 x3 x4 x5 x6 x7 = some res → ∀ (H : Heap) (locs : List Loc) (ls : Array Slot), va_P (dC, dI) vwCl ((ql_mw h ad cI cZ cJ) z) H → va_D A ((ql_mw h ad cI cZ cJ) z) → va_S A s.heap H locs → lv_has ls 8 [(0, .ref h), (1, .int x1), (2, .int x2), (3, .int x3), (4, .int x4), (5, .int x5), (6, .int x6), (7, .int x7)] → W p l e rm_X11_fewest s m args below meth c H locs 0 0 (ql_Qi below (dC, dI) (ql_mw h ad cI cZ cJ) A args s res) (F0 m 83 ls [])) : ∀ (z : ql_Z) (x1 : Int32) (x2 : Int32) (x3 : Int32) (x4 : Int32) (x5 : Int32) (x6 : Int32) (x7 : Int32), f_X11_fewest_130 N k50 k62 k83 z x1 x2 x3 x4 x5 x6 x7 = some res → ∀ (H : Heap) (locs : List Loc) (ls : Array Slot), va_P (dC, dI) vwCl ((ql_mw h ad cI cZ cJ) z) H → va_D A ((ql_mw h ad cI cZ cJ) z) → va_S A s.heap H locs → lv_has ls 8 [(0, .ref h), (1, .int x1), (2, .int x2), (3, .int x3), (4, .int x4), (5, .int x5), (6, .int x6), (7, .int x7)] → W p l e rm_X11_fewest s m args below meth c H locs 0 0 (ql_Qi below (dC, dI) (ql_mw h ad cI cZ cJ) A args s res) (F0 m 130 ls []) := by
  have C0q := C0
  obtain ⟨hx, hb, hr, hml, hown, hts, hlocks, hK, hA⟩ := C0q
  intro z x1 x2 x3 x4 x5 x6 x7 hf H locs ls hP hD hS hl
  unfold f_X11_fewest_130 at hf
  refine lv_iload hx hb dX11_fewest_130 (lv_at hl 6 rfl) ?_
  exact w_X11_fewest_132 C0 N k50 hk50 k62 hk62 k83 hk83 _ _ _ _ _ _ _ _ hf _ _ _ hP hD hS (lv_sub hl [0, 1, 2, 3, 4, 5, 7] rfl)
set_option maxHeartbeats 4000000 in
set_option maxRecDepth 100000 in
theorem w_X11_fewest_83 {p : Program} {l : Launch} {e : Env} {s : State} {m : MethodId} {args : Array Value} {below : List Frame} {meth : Method} {c : Code} {dC : Nat → ClassId} {dI : Nat → Nat → Nat} {A : Nat → Prop} {h : Nat} {ad : Nat → Nat} {cI cZ cJ : ClassId} {res : Int32 × ql_Z} (C0 : ql_C p s m args meth c cX11_fewest 8 (some .int) wsX11_fewest RX11 (dC, dI) [(cI, .int), (cZ, .boolean), (cJ, .long)] A) (N : Nat) (k50 : ql_Z → Int32 → Int32 → Int32 → Int32 → Option (Int32 × ql_Z)) (hk50 : ∀ (z : ql_Z) (x1 : Int32) (x2 : Int32) (x3 : Int32) (x4 : Int32), k50 z x1 x2 x3 x4 = some res → ∀ (H : Heap) (locs : List Loc) (ls : Array Slot), va_P (dC, dI) vwCl ((ql_mw h ad cI cZ cJ) z) H → va_D A ((ql_mw h ad cI cZ cJ) z) → va_S A s.heap H locs → lv_has ls 8 [(0, .ref h), (1, .int x1), (2, .int x2), (3, .int x3), (4, .int x4)] → W p l e rm_X11_fewest s m args below meth c H locs 0 0 (ql_Qi below (dC, dI) (ql_mw h ad cI cZ cJ) A args s res) (F0 m 50 ls [])) (k62 : ql_Z → Int32 → Int32 → Int32 → Int32 → Int32 → Option (Int32 × ql_Z)) (hk62 : ∀ (z : ql_Z) (x1 : Int32) (x2 : Int32) (x3 : Int32) (x4 : Int32) (x5 : Int32), k62 z x1 x2 x3 x4 x5 = some res → ∀ (H : Heap) (locs : List Loc) (ls : Array Slot), va_P (dC, dI) vwCl ((ql_mw h ad cI cZ cJ) z) H → va_D A ((ql_mw h ad cI cZ cJ) z) → va_S A s.heap H locs → lv_has ls 8 [(0, .ref h), (1, .int x1), (2, .int x2), (3, .int x3), (4, .int x4), (5, .int x5)] → W p l e rm_X11_fewest s m args below meth c H locs 0 0 (ql_Qi below (dC, dI) (ql_mw h ad cI cZ cJ) A args s res) (F0 m 62 ls [])) : ∀ (n : Nat), ∀ (z : ql_Z) (x1 : Int32) (x2 : Int32) (x3 : Int32) (x4 : Int32) (x5 : Int32) (x6 : Int32) (x7 : Int32), f_X11_fewest_83 N k50 k62 n z x1 x2 x3 x4 x5 x6 x7 = some res → ∀ (H : Heap) (locs : List Loc) (ls : Array Slot), va_P (dC, dI) vwCl ((ql_mw h ad cI cZ cJ) z) H → va_D A ((ql_mw h ad cI cZ cJ) z) → va_S A s.heap H locs → lv_has ls 8 [(0, .ref h), (1, .int x1), (2, .int x2), (3, .int x3), (4, .int x4), (5, .int x5), (6, .int x6), (7, .int x7)] → W p l e rm_X11_fewest s m args below meth c H locs 0 0 (ql_Qi below (dC, dI) (ql_mw h ad cI cZ cJ) A args s res) (F0 m 83 ls []) := by
  have C0q := C0
  obtain ⟨hx, hb, hr, hml, hown, hts, hlocks, hK, hA⟩ := C0q
  have fl80 := hts (Cond.fieldLink RX11 80 "TestedLoopsModel" "newGroup" "[I") (by decide +kernel)
  intro n
  induction n with
  | zero =>
    intro z x1 x2 x3 x4 x5 x6 x7 hf
    rw [f_X11_fewest_83] at hf
    cases hf
  | succ n ih =>
    intro z x1 x2 x3 x4 x5 x6 x7 hf H locs ls hP hD hS hl
    rw [f_X11_fewest_83] at hf
    refine lv_iload hx hb dX11_fewest_83 (lv_at hl 7 rfl) ?_
    refine lv_if_lt (tgt := 140) hx hb dX11_fewest_85 (by decide) (fun c4 => ?_) (fun c4 => ?_)
    · have hf := (if_pos c4).symm.trans hf
      exact w_X11_fewest_140 C0 N k50 hk50 k62 hk62 _ _ _ _ _ _ _ hf _ _ _ hP hD hS (lv_sub hl [0, 1, 2, 3, 4, 5, 6] rfl)
    · have hf := (if_neg c4).symm.trans hf
      refine lv_iload_n hx hb dX11_fewest_88 rfl (lv_at hl 2 rfl) ?_
      refine lv_iload hx hb dX11_fewest_89 (lv_at hl 5 rfl) ?_
      refine lv_ishr hx hb dX11_fewest_91 ?_
      refine lv_iconst (v := 1) hx hb dX11_fewest_92 (by decide) ?_
      refine lv_iand hx hb dX11_fewest_93 ?_
      refine lv_iconst (v := 1) hx hb dX11_fewest_94 (by decide) ?_
      refine lv_icmp_ne (tgt := 140) hx hb dX11_fewest_95 (by decide) (fun c5 => ?_) (fun c5 => ?_)
      · have hf := (if_neg c5).symm.trans hf
        exact w_X11_fewest_140 C0 N k50 hk50 k62 hk62 _ _ _ _ _ _ _ hf _ _ _ hP hD hS (lv_sub hl [0, 1, 2, 3, 4, 5, 6] rfl)
      · have hf := (if_pos c5).symm.trans hf
        refine lv_iload_n hx hb dX11_fewest_98 rfl (lv_at hl 2 rfl) ?_
        refine lv_iload hx hb dX11_fewest_99 (lv_at hl 7 rfl) ?_
        refine lv_ishr hx hb dX11_fewest_101 ?_
        refine lv_iconst (v := 1) hx hb dX11_fewest_102 (by decide) ?_
        refine lv_iand hx hb dX11_fewest_103 ?_
        refine lv_iconst (v := 1) hx hb dX11_fewest_104 (by decide) ?_
        refine lv_icmp_ne (tgt := 130) hx hb dX11_fewest_105 (by decide) (fun c6 => ?_) (fun c6 => ?_)
        · have hf := (if_neg c6).symm.trans hf
          exact w_X11_fewest_130 C0 N k50 hk50 k62 hk62 (f_X11_fewest_83 N k50 k62 n) ih _ _ _ _ _ _ _ _ hf _ _ _ hP hD hS (lv_sub hl [0, 1, 2, 3, 4, 5, 6, 7] rfl)
        · have hf := (if_pos c6).symm.trans hf
          refine lv_aload_n hx hb dX11_fewest_108 rfl (lv_at hl 0 rfl) ?_
          refine lv_iload_n hx hb dX11_fewest_109 rfl (lv_at hl 1 rfl) ?_
          refine lv_iload hx hb dX11_fewest_110 (lv_at hl 5 rfl) ?_
          refine lv_iload hx hb dX11_fewest_112 (lv_at hl 7 rfl) ?_
          obtain ⟨u7, hu7, hf⟩ := ql_bd hf
          refine ql_callRVi (As := [.int x1, .int x5, .int x7]) (rest := []) C0 (c_X11_areAlike l dC dI h ad cI cZ cJ N z x1 x5 x7 u7 hu7) (cwV 3 hts gX11_fewest_X11_areAlike rfl rfl rfl qv_X11_areAlike ⟨Nat.le_of_ble_eq_true rfl, Nat.le_of_ble_eq_true rfl⟩) (va_recv hK.1 hP (ci := 11) (q0 := 0) rfl rfl) hK hP hS hl.1 rfl rfl (Nat.le_of_ble_eq_true rfl) dX11_fewest_114 (fun H1 locs hk hS => ?_)
          have hP := ql_keep hP hk
          refine lv_if_eq (tgt := 130) hx hb dX11_fewest_117 (by decide) (fun c8 => ?_) (fun c8 => ?_)
          · have hf := (if_pos c8).symm.trans hf
            exact w_X11_fewest_130 C0 N k50 hk50 k62 hk62 (f_X11_fewest_83 N k50 k62 n) ih _ _ _ _ _ _ _ _ hf _ _ _ hP hD hS (lv_sub hl [0, 1, 2, 3, 4, 5, 6, 7] rfl)
          · have hf := (if_neg c8).symm.trans hf
            refine lv_aload_n hx hb dX11_fewest_120 rfl (lv_at hl 0 rfl) ?_
            refine va_get (D := (dC, dI)) (ci := 11) (v := .ref (ad 35)) (C := RX11) (T := TX11) (N := 41) hx hb hts iw_X11_fewest_X11 hown hK.1 hP 0 rfl rfl 35 (by decide) fl80 (fun _ h9 => h9) rfl dX11_fewest_121 ?_
            refine lv_iload hx hb dX11_fewest_124 (lv_at hl 7 rfl) ?_
            have g0 := ql_in (ql_gt hf)
            have hf := ql_gx hf
            refine va_iald (f := (z.1 35)) hx hb hK.1 hP 24 0 rfl rfl g0 dX11_fewest_126 ?_
            refine lv_goto (tgt := 132) hx hb dX11_fewest_127 (by decide) ?_
            exact w_X11_fewest_132 C0 N k50 hk50 k62 hk62 (f_X11_fewest_83 N k50 k62 n) ih _ _ _ _ _ _ _ _ hf _ _ _ hP hD hS (lv_sub hl [0, 1, 2, 3, 4, 5, 7] rfl)
set_option maxHeartbeats 4000000 in
set_option maxRecDepth 100000 in
theorem w_X11_fewest_62 {p : Program} {l : Launch} {e : Env} {s : State} {m : MethodId} {args : Array Value} {below : List Frame} {meth : Method} {c : Code} {dC : Nat → ClassId} {dI : Nat → Nat → Nat} {A : Nat → Prop} {h : Nat} {ad : Nat → Nat} {cI cZ cJ : ClassId} {res : Int32 × ql_Z} (C0 : ql_C p s m args meth c cX11_fewest 8 (some .int) wsX11_fewest RX11 (dC, dI) [(cI, .int), (cZ, .boolean), (cJ, .long)] A) (N : Nat) (k50 : ql_Z → Int32 → Int32 → Int32 → Int32 → Option (Int32 × ql_Z)) (hk50 : ∀ (z : ql_Z) (x1 : Int32) (x2 : Int32) (x3 : Int32) (x4 : Int32), k50 z x1 x2 x3 x4 = some res → ∀ (H : Heap) (locs : List Loc) (ls : Array Slot), va_P (dC, dI) vwCl ((ql_mw h ad cI cZ cJ) z) H → va_D A ((ql_mw h ad cI cZ cJ) z) → va_S A s.heap H locs → lv_has ls 8 [(0, .ref h), (1, .int x1), (2, .int x2), (3, .int x3), (4, .int x4)] → W p l e rm_X11_fewest s m args below meth c H locs 0 0 (ql_Qi below (dC, dI) (ql_mw h ad cI cZ cJ) A args s res) (F0 m 50 ls [])) : ∀ (n : Nat), ∀ (z : ql_Z) (x1 : Int32) (x2 : Int32) (x3 : Int32) (x4 : Int32) (x5 : Int32), f_X11_fewest_62 N k50 n z x1 x2 x3 x4 x5 = some res → ∀ (H : Heap) (locs : List Loc) (ls : Array Slot), va_P (dC, dI) vwCl ((ql_mw h ad cI cZ cJ) z) H → va_D A ((ql_mw h ad cI cZ cJ) z) → va_S A s.heap H locs → lv_has ls 8 [(0, .ref h), (1, .int x1), (2, .int x2), (3, .int x3), (4, .int x4), (5, .int x5)] → W p l e rm_X11_fewest s m args below meth c H locs 0 0 (ql_Qi below (dC, dI) (ql_mw h ad cI cZ cJ) A args s res) (F0 m 62 ls []) := by
  have C0q := C0
  obtain ⟨hx, hb, hr, hml, hown, hts, hlocks, hK, hA⟩ := C0q
  have fl31 := hts (Cond.fieldLink RX11 31 "TestedLoopsModel" "many" "[I") (by decide +kernel)
  intro n
  induction n with
  | zero =>
    intro z x1 x2 x3 x4 x5 hf
    rw [f_X11_fewest_62] at hf
    cases hf
  | succ n ih =>
    intro z x1 x2 x3 x4 x5 hf H locs ls hP hD hS hl
    rw [f_X11_fewest_62] at hf
    refine lv_iload hx hb dX11_fewest_62 (lv_at hl 5 rfl) ?_
    refine lv_aload_n hx hb dX11_fewest_64 rfl (lv_at hl 0 rfl) ?_
    refine va_get (D := (dC, dI)) (ci := 11) (v := .ref (ad 9)) (C := RX11) (T := TX11) (N := 41) hx hb hts iw_X11_fewest_X11 hown hK.1 hP 0 rfl rfl 9 (by decide) fl31 (fun _ h9 => h9) rfl dX11_fewest_65 ?_
    refine lv_iload_n hx hb dX11_fewest_68 rfl (lv_at hl 1 rfl) ?_
    have g0 := ql_in (ql_gt hf)
    have hf := ql_gx hf
    refine va_iald (f := (z.1 9)) hx hb hK.1 hP 8 0 rfl rfl g0 dX11_fewest_69 ?_
    refine lv_icmp_gt (tgt := 180) hx hb dX11_fewest_70 (by decide) (fun c9 => ?_) (fun c9 => ?_)
    · have hf := (if_pos c9).symm.trans hf
      refine lv_iconst (v := 0) hx hb dX11_fewest_180 (by decide) ?_
      refine lv_istore (lv' := [(5, .int 0), (0, .ref h), (1, .int x1), (2, .int x2), (3, .int x3), (4, .int x4)]) hx hb dX11_fewest_181 hl (by decide) rfl (fun ls hl => ?_)
      exact w_X11_fewest_183 C0 N k50 hk50 N _ _ _ _ _ _ hf _ _ _ hP hD hS (lv_sub hl [1, 2, 3, 4, 5, 0] rfl)
    · have hf := (if_neg c9).symm.trans hf
      refine lv_iload hx hb dX11_fewest_73 (lv_at hl 5 rfl) ?_
      refine lv_istore (lv' := [(6, .int x5), (0, .ref h), (1, .int x1), (2, .int x2), (3, .int x3), (4, .int x4), (5, .int x5)]) hx hb dX11_fewest_75 hl (by decide) rfl (fun ls hl => ?_)
      refine lv_iload hx hb dX11_fewest_77 (lv_at hl 6 rfl) ?_
      refine lv_iconst (v := 1) hx hb dX11_fewest_79 (by decide) ?_
      refine lv_isub hx hb dX11_fewest_80 ?_
      refine lv_istore (lv' := [(7, .int (x5 - 1)), (6, .int x5), (0, .ref h), (1, .int x1), (2, .int x2), (3, .int x3), (4, .int x4), (5, .int x5)]) hx hb dX11_fewest_81 hl (by decide) rfl (fun ls hl => ?_)
      exact w_X11_fewest_83 C0 N k50 hk50 (f_X11_fewest_62 N k50 n) ih N _ _ _ _ _ _ _ _ hf _ _ _ hP hD hS (lv_sub hl [2, 3, 4, 5, 6, 7, 1, 0] rfl)
set_option maxHeartbeats 4000000 in
set_option maxRecDepth 100000 in
theorem w_X11_fewest_50 {p : Program} {l : Launch} {e : Env} {s : State} {m : MethodId} {args : Array Value} {below : List Frame} {meth : Method} {c : Code} {dC : Nat → ClassId} {dI : Nat → Nat → Nat} {A : Nat → Prop} {h : Nat} {ad : Nat → Nat} {cI cZ cJ : ClassId} {res : Int32 × ql_Z} (C0 : ql_C p s m args meth c cX11_fewest 8 (some .int) wsX11_fewest RX11 (dC, dI) [(cI, .int), (cZ, .boolean), (cJ, .long)] A) (N : Nat) : ∀ (n : Nat), ∀ (z : ql_Z) (x1 : Int32) (x2 : Int32) (x3 : Int32) (x4 : Int32), f_X11_fewest_50 N n z x1 x2 x3 x4 = some res → ∀ (H : Heap) (locs : List Loc) (ls : Array Slot), va_P (dC, dI) vwCl ((ql_mw h ad cI cZ cJ) z) H → va_D A ((ql_mw h ad cI cZ cJ) z) → va_S A s.heap H locs → lv_has ls 8 [(0, .ref h), (1, .int x1), (2, .int x2), (3, .int x3), (4, .int x4)] → W p l e rm_X11_fewest s m args below meth c H locs 0 0 (ql_Qi below (dC, dI) (ql_mw h ad cI cZ cJ) A args s res) (F0 m 50 ls []) := by
  have C0q := C0
  obtain ⟨hx, hb, hr, hml, hown, hts, hlocks, hK, hA⟩ := C0q
  intro n
  induction n with
  | zero =>
    intro z x1 x2 x3 x4 hf
    rw [f_X11_fewest_50] at hf
    cases hf
  | succ n ih =>
    intro z x1 x2 x3 x4 hf H locs ls hP hD hS hl
    rw [f_X11_fewest_50] at hf
    refine lv_iload hx hb dX11_fewest_50 (lv_at hl 4 rfl) ?_
    refine lv_bipush (v := 17) hx hb dX11_fewest_52 (by decide) ?_
    refine lv_icmp_gt (tgt := 216) hx hb dX11_fewest_54 (by decide) (fun c10 => ?_) (fun c10 => ?_)
    · have hf := (if_pos c10).symm.trans hf
      refine lv_iload_n hx hb dX11_fewest_216 rfl (lv_at hl 3 rfl) ?_
      exact ql_iret C0 hf hP hD hS dX11_fewest_217
    · have hf := (if_neg c10).symm.trans hf
      refine lv_iconst (v := 0) hx hb dX11_fewest_57 (by decide) ?_
      refine lv_istore_n (lv' := [(3, .int 0), (0, .ref h), (1, .int x1), (2, .int x2), (4, .int x4)]) hx hb dX11_fewest_58 rfl hl (by decide) rfl (fun ls hl => ?_)
      refine lv_iconst (v := 0) hx hb dX11_fewest_59 (by decide) ?_
      refine lv_istore (lv' := [(5, .int 0), (3, .int 0), (0, .ref h), (1, .int x1), (2, .int x2), (4, .int x4)]) hx hb dX11_fewest_60 hl (by decide) rfl (fun ls hl => ?_)
      exact w_X11_fewest_62 C0 N (f_X11_fewest_50 N n) ih N _ _ _ _ _ _ hf _ _ _ hP hD hS (lv_sub hl [2, 3, 4, 1, 5, 0] rfl)
set_option maxHeartbeats 4000000 in
set_option maxRecDepth 100000 in
theorem w_X11_fewest_26 {p : Program} {l : Launch} {e : Env} {s : State} {m : MethodId} {args : Array Value} {below : List Frame} {meth : Method} {c : Code} {dC : Nat → ClassId} {dI : Nat → Nat → Nat} {A : Nat → Prop} {h : Nat} {ad : Nat → Nat} {cI cZ cJ : ClassId} {res : Int32 × ql_Z} (C0 : ql_C p s m args meth c cX11_fewest 8 (some .int) wsX11_fewest RX11 (dC, dI) [(cI, .int), (cZ, .boolean), (cJ, .long)] A) (N : Nat) : ∀ (n : Nat), ∀ (z : ql_Z) (x1 : Int32) (x2 : Int32) (x3 : Int32), f_X11_fewest_26 N n z x1 x2 x3 = some res → ∀ (H : Heap) (locs : List Loc) (ls : Array Slot), va_P (dC, dI) vwCl ((ql_mw h ad cI cZ cJ) z) H → va_D A ((ql_mw h ad cI cZ cJ) z) → va_S A s.heap H locs → lv_has ls 8 [(0, .ref h), (1, .int x1), (2, .int x2), (3, .int x3)] → W p l e rm_X11_fewest s m args below meth c H locs 0 0 (ql_Qi below (dC, dI) (ql_mw h ad cI cZ cJ) A args s res) (F0 m 26 ls []) := by
  have C0q := C0
  obtain ⟨hx, hb, hr, hml, hown, hts, hlocks, hK, hA⟩ := C0q
  have fl77 := hts (Cond.fieldLink RX11 77 "TestedLoopsModel" "group" "[I") (by decide +kernel)
  intro n
  induction n with
  | zero =>
    intro z x1 x2 x3 hf
    rw [f_X11_fewest_26] at hf
    cases hf
  | succ n ih =>
    intro z x1 x2 x3 hf H locs ls hP hD hS hl
    rw [f_X11_fewest_26] at hf
    refine lv_iload_n hx hb dX11_fewest_26 rfl (lv_at hl 3 rfl) ?_
    refine lv_bipush (v := 17) hx hb dX11_fewest_27 (by decide) ?_
    refine lv_icmp_ge (tgt := 45) hx hb dX11_fewest_29 (by decide) (fun c11 => ?_) (fun c11 => ?_)
    · have hf := (if_pos c11).symm.trans hf
      refine lv_iconst (v := 0) hx hb dX11_fewest_45 (by decide) ?_
      refine lv_istore_n (lv' := [(3, .int 0), (0, .ref h), (1, .int x1), (2, .int x2)]) hx hb dX11_fewest_46 rfl hl (by decide) rfl (fun ls hl => ?_)
      refine lv_iconst (v := 0) hx hb dX11_fewest_47 (by decide) ?_
      refine lv_istore (lv' := [(4, .int 0), (3, .int 0), (0, .ref h), (1, .int x1), (2, .int x2)]) hx hb dX11_fewest_48 hl (by decide) rfl (fun ls hl => ?_)
      exact w_X11_fewest_50 C0 N N _ _ _ _ _ hf _ _ _ hP hD hS (lv_sub hl [2, 3, 4, 1, 0] rfl)
    · have hf := (if_neg c11).symm.trans hf
      refine lv_aload_n hx hb dX11_fewest_32 rfl (lv_at hl 0 rfl) ?_
      refine va_get (D := (dC, dI)) (ci := 11) (v := .ref (ad 34)) (C := RX11) (T := TX11) (N := 41) hx hb hts iw_X11_fewest_X11 hown hK.1 hP 0 rfl rfl 34 (by decide) fl77 (fun _ h9 => h9) rfl dX11_fewest_33 ?_
      refine lv_iload_n hx hb dX11_fewest_36 rfl (lv_at hl 3 rfl) ?_
      refine lv_iconst (v := 0) hx hb dX11_fewest_37 (by decide) ?_
      have g0 := ql_in (ql_gt hf)
      have hf := ql_gx hf
      refine va_iast (f := (z.1 34)) hx hb hK.1 hP hD hS 23 0 rfl rfl g0 dX11_fewest_38 (fun H locs hP hD hS => ?_)
      refine lv_iinc (v := (x3 + 1)) (lv' := [(3, .int (x3 + 1)), (0, .ref h), (1, .int x1), (2, .int x2)]) hx hb dX11_fewest_39 hl (k := 3) rfl rfl (by decide) rfl (fun ls hl => ?_)
      refine lv_goto (tgt := 26) hx hb dX11_fewest_42 (by decide) ?_
      exact ih _ _ _ _ hf _ _ _ hP hD hS (lv_sub hl [1, 2, 3, 0] rfl)
set_option maxHeartbeats 4000000 in
set_option maxRecDepth 100000 in
theorem w_X11_fewest_0 {p : Program} {l : Launch} {e : Env} {s : State} {m : MethodId} {args : Array Value} {below : List Frame} {meth : Method} {c : Code} {dC : Nat → ClassId} {dI : Nat → Nat → Nat} {A : Nat → Prop} {h : Nat} {ad : Nat → Nat} {cI cZ cJ : ClassId} {res : Int32 × ql_Z} (C0 : ql_C p s m args meth c cX11_fewest 8 (some .int) wsX11_fewest RX11 (dC, dI) [(cI, .int), (cZ, .boolean), (cJ, .long)] A) (N : Nat) : ∀ (z : ql_Z) (x1 : Int32), f_X11_fewest_0 N z x1 = some res → ∀ (H : Heap) (locs : List Loc) (ls : Array Slot), va_P (dC, dI) vwCl ((ql_mw h ad cI cZ cJ) z) H → va_D A ((ql_mw h ad cI cZ cJ) z) → va_S A s.heap H locs → lv_has ls 8 [(0, .ref h), (1, .int x1)] → W p l e rm_X11_fewest s m args below meth c H locs 0 0 (ql_Qi below (dC, dI) (ql_mw h ad cI cZ cJ) A args s res) (F0 m 0 ls []) := by
  have C0q := C0
  obtain ⟨hx, hb, hr, hml, hown, hts, hlocks, hK, hA⟩ := C0q
  have fl269 := hts (Cond.fieldLink RX11 269 "TestedLoopsModel" "reachSet" "I") (by decide +kernel)
  have fl272 := hts (Cond.fieldLink RX11 272 "TestedLoopsModel" "liveSet" "I") (by decide +kernel)
  intro z x1 hf H locs ls hP hD hS hl
  unfold f_X11_fewest_0 at hf
  refine lv_iload_n hx hb dX11_fewest_0 rfl (lv_at hl 1 rfl) ?_
  obtain ⟨u12, hu12, hf⟩ := ql_bd hf
  refine ql_callRSi (As := [.int x1]) (rest := []) C0 (c_X11_isProgram l dC dI N x1 u12 hu12) (va_cwS 1 hts gX11_fewest_X11_isProgram rfl rfl rfl qd_X11_isProgram ⟨Nat.le_of_ble_eq_true rfl, Nat.le_of_ble_eq_true rfl⟩) (hK.sub [] rfl) ql_nil hS hl.1 rfl rfl (Nat.le_of_ble_eq_true rfl) dX11_fewest_1 (fun H1 locs hk hS => ?_)
  have hP := ql_keep hP hk
  refine lv_if_ne (tgt := 9) hx hb dX11_fewest_4 (by decide) (fun c13 => ?_) (fun c13 => ?_)
  · have hf := (if_neg c13).symm.trans hf
    refine lv_aload_n hx hb dX11_fewest_9 rfl (lv_at hl 0 rfl) ?_
    refine lv_iload_n hx hb dX11_fewest_10 rfl (lv_at hl 1 rfl) ?_
    obtain ⟨u14, hu14, hf⟩ := ql_bd hf
    refine ql_callVv (As := [.int x1]) (rest := []) C0 (c_X11_surveys l dC dI h ad cI cZ cJ N z x1 u14 hu14) (cwV 1 hts gX11_fewest_X11_surveys rfl rfl rfl qv_X11_surveys ⟨Nat.le_of_ble_eq_true rfl, Nat.le_of_ble_eq_true rfl⟩) (va_recv hK.1 hP (ci := 11) (q0 := 0) rfl rfl) hP hD hS hl.1 rfl rfl (Nat.le_of_ble_eq_true rfl) dX11_fewest_11 (fun H locs hP hD hS => ?_)
    refine lv_aload_n hx hb dX11_fewest_14 rfl (lv_at hl 0 rfl) ?_
    refine va_get (D := (dC, dI)) (ci := 11) (v := .int (u14.1 32 0)) (C := RX11) (T := TX11) (N := 41) hx hb hts iw_X11_fewest_X11 hown hK.1 hP 0 rfl rfl 32 (by decide) fl269 (fun _ h9 => h9) rfl dX11_fewest_15 ?_
    refine lv_aload_n hx hb dX11_fewest_18 rfl (lv_at hl 0 rfl) ?_
    refine va_get (D := (dC, dI)) (ci := 11) (v := .int (u14.1 33 0)) (C := RX11) (T := TX11) (N := 41) hx hb hts iw_X11_fewest_X11 hown hK.1 hP 0 rfl rfl 33 (by decide) fl272 (fun _ h9 => h9) rfl dX11_fewest_19 ?_
    refine lv_iand hx hb dX11_fewest_22 ?_
    refine lv_istore_n (lv' := [(2, .int ((u14.1 32 0) &&& (u14.1 33 0))), (0, .ref h), (1, .int x1)]) hx hb dX11_fewest_23 rfl hl (by decide) rfl (fun ls hl => ?_)
    refine lv_iconst (v := 0) hx hb dX11_fewest_24 (by decide) ?_
    refine lv_istore_n (lv' := [(3, .int 0), (2, .int ((u14.1 32 0) &&& (u14.1 33 0))), (0, .ref h), (1, .int x1)]) hx hb dX11_fewest_25 rfl hl (by decide) rfl (fun ls hl => ?_)
    exact w_X11_fewest_26 C0 N N _ _ _ _ hf _ _ _ hP hD hS (lv_sub hl [2, 3, 1, 0] rfl)
  · have hf := (if_pos c13).symm.trans hf
    refine lv_iconst (v := (-1)) hx hb dX11_fewest_7 (by decide) ?_
    exact ql_iret C0 hf hP hD hS dX11_fewest_8
set_option maxRecDepth 100000 in
theorem c_X11_fewest (l : Launch) (dC : Nat → ClassId) (dI : Nat → Nat → Nat) (h : Nat) (ad : Nat → Nat) (cI cZ cJ : ClassId) (N : Nat) (z : ql_Z) (x1 : Int32) (res : Int32 × ql_Z) (hf : f_X11_fewest N z x1 = some res) : ql_Mi l yX11_fewest wsX11_fewest rm_X11_fewest (dC, dI) [(cI, .int), (cZ, .boolean), (cJ, .long)] (ql_mw h ad cI cZ cJ) [.ref h, .int x1] z res :=
  ql_start_i (by decide) rfl (Nat.le_of_ble_eq_true rfl) (fun p e s m below meth c A ls C0 hl hP hD hS => w_X11_fewest_0 C0 N z x1 hf s.heap [] ls hP hD hS (lv_sub (show lv_has ls 8 [(0, .ref h), (1, .int x1)] from hl) [0, 1] rfl))
/-! ===== TestedLoopsModel.lastOf(III)I ===== -/
abbrev rm_X11_lastOf : Room := { frames := 1, cells := 0, slots := 0, locals := 23 }
theorem iw_X11_lastOf_X11 : ∀ w ∈ wsX110, w ∈ wsX11_lastOf := fun w h => List.mem_cons_of_mem _ (List.mem_append_right _ h)
theorem qv_X11_lastOf : yX11_lastOf.cls = RX11 ∧ yX11_lastOf.cls ≠ "java/lang/invoke/MethodHandle" ∧ yX11_lastOf.cls ≠ "java/lang/invoke/VarHandle" ∧ (parseMethodDescriptor yX11_lastOf.desc).map (fun d => d.parameters.length) = some 3 := by decide +kernel
def f_X11_lastOf_0 (N : Nat) (z : ql_Z) (x1 : Int32) (x2 : Int32) (x3 : Int32) : Option (Int32) := (f_X11_to N z x1 x2 x3).bind fun u1 => if 0 ≤ u1 then if u1 = 0 then some ((1 : Int32) <<< (x3 &&& 31)) else if ql_ib u1 17 = true then some ((z.1 36) u1.toNatClampNeg) else none else some 0
def f_X11_lastOf (N : Nat) (z : ql_Z) (x1 : Int32) (x2 : Int32) (x3 : Int32) : Option (Int32) := f_X11_lastOf_0 N z x1 x2 x3
set_option maxHeartbeats 4000000 in
set_option maxRecDepth 100000 in
theorem w_X11_lastOf_0 {p : Program} {l : Launch} {e : Env} {s : State} {m : MethodId} {args : Array Value} {below : List Frame} {meth : Method} {c : Code} {dC : Nat → ClassId} {dI : Nat → Nat → Nat} {A : Nat → Prop} {h : Nat} {ad : Nat → Nat} {cI cZ cJ : ClassId} {res : Int32} (C0 : ql_C p s m args meth c cX11_lastOf 5 (some .int) wsX11_lastOf RX11 (dC, dI) [(cI, .int), (cZ, .boolean), (cJ, .long)] A) (N : Nat) (z : ql_Z) : ∀ (x1 : Int32) (x2 : Int32) (x3 : Int32), f_X11_lastOf_0 N z x1 x2 x3 = some res → ∀ (H : Heap) (locs : List Loc) (ls : Array Slot), va_P (dC, dI) vwCl ((ql_mw h ad cI cZ cJ) z) H → va_S A s.heap H locs → lv_has ls 5 [(0, .ref h), (1, .int x1), (2, .int x2), (3, .int x3)] → W p l e rm_X11_lastOf s m args below meth c H locs 0 0 (ql_Qri below A args s res) (F0 m 0 ls []) := by
  have C0q := C0
  obtain ⟨hx, hb, hr, hml, hown, hts, hlocks, hK, hA⟩ := C0q
  have fl83 := hts (Cond.fieldLink RX11 83 "TestedLoopsModel" "lasts" "[I") (by decide +kernel)
  intro x1 x2 x3 hf H locs ls hP hS hl
  unfold f_X11_lastOf_0 at hf
  refine lv_aload_n hx hb dX11_lastOf_0 rfl (lv_at hl 0 rfl) ?_
  refine lv_iload_n hx hb dX11_lastOf_1 rfl (lv_at hl 1 rfl) ?_
  refine lv_iload_n hx hb dX11_lastOf_2 rfl (lv_at hl 2 rfl) ?_
  refine lv_iload_n hx hb dX11_lastOf_3 rfl (lv_at hl 3 rfl) ?_
  obtain ⟨u1, hu1, hf⟩ := ql_bd hf
  refine ql_callRVi (As := [.int x1, .int x2, .int x3]) (rest := []) C0 (c_X11_to l dC dI h ad cI cZ cJ N z x1 x2 x3 u1 hu1) (cwV 3 hts gX11_lastOf_X11_to rfl rfl rfl qv_X11_to ⟨Nat.le_of_ble_eq_true rfl, Nat.le_of_ble_eq_true rfl⟩) (va_recv hK.1 hP (ci := 11) (q0 := 0) rfl rfl) hK hP hS hl.1 rfl rfl (Nat.le_of_ble_eq_true rfl) dX11_lastOf_4 (fun H1 locs hk hS => ?_)
  have hP := ql_keep hP hk
  refine lv_istore (lv' := [(4, .int u1), (0, .ref h), (1, .int x1), (2, .int x2), (3, .int x3)]) hx hb dX11_lastOf_7 hl (by decide) rfl (fun ls hl => ?_)
  refine lv_iload hx hb dX11_lastOf_9 (lv_at hl 0 rfl) ?_
  refine lv_if_ge (tgt := 18) hx hb dX11_lastOf_11 (by decide) (fun c2 => ?_) (fun c2 => ?_)
  · have hf := (if_pos c2).symm.trans hf
    refine lv_iload hx hb dX11_lastOf_18 (lv_at hl 0 rfl) ?_
    refine lv_if_ne (tgt := 29) hx hb dX11_lastOf_20 (by decide) (fun c3 => ?_) (fun c3 => ?_)
    · have hf := (if_neg c3).symm.trans hf
      refine lv_aload_n hx hb dX11_lastOf_29 rfl (lv_at hl 1 rfl) ?_
      refine va_get (D := (dC, dI)) (ci := 11) (v := .ref (ad 36)) (C := RX11) (T := TX11) (N := 41) hx hb hts iw_X11_lastOf_X11 hown hK.1 hP 0 rfl rfl 36 (by decide) fl83 (fun _ h9 => h9) rfl dX11_lastOf_30 ?_
      refine lv_iload hx hb dX11_lastOf_33 (lv_at hl 0 rfl) ?_
      have g0 := ql_in (ql_gt hf)
      have hf := ql_gx hf
      refine va_iald (f := (z.1 36)) hx hb hK.1 hP 25 0 rfl rfl g0 dX11_lastOf_35 ?_
      exact ql_riret C0 hf hS dX11_lastOf_36
    · have hf := (if_pos c3).symm.trans hf
      refine lv_iconst (v := 1) hx hb dX11_lastOf_23 (by decide) ?_
      refine lv_iload_n hx hb dX11_lastOf_24 rfl (lv_at hl 4 rfl) ?_
      refine lv_ishl hx hb dX11_lastOf_25 ?_
      refine lv_goto (tgt := 36) hx hb dX11_lastOf_26 (by decide) ?_
      exact ql_riret C0 hf hS dX11_lastOf_36
  · have hf := (if_neg c2).symm.trans hf
    refine lv_iconst (v := 0) hx hb dX11_lastOf_14 (by decide) ?_
    refine lv_goto (tgt := 36) hx hb dX11_lastOf_15 (by decide) ?_
    exact ql_riret C0 hf hS dX11_lastOf_36
set_option maxRecDepth 100000 in
theorem c_X11_lastOf (l : Launch) (dC : Nat → ClassId) (dI : Nat → Nat → Nat) (h : Nat) (ad : Nat → Nat) (cI cZ cJ : ClassId) (N : Nat) (z : ql_Z) (x1 : Int32) (x2 : Int32) (x3 : Int32) (res : Int32) (hf : f_X11_lastOf N z x1 x2 x3 = some res) : ql_Ri l yX11_lastOf wsX11_lastOf rm_X11_lastOf (dC, dI) [(cI, .int), (cZ, .boolean), (cJ, .long)] ((ql_mw h ad cI cZ cJ) z) [.ref h, .int x1, .int x2, .int x3] res :=
  ql_start_ri (by decide) rfl (Nat.le_of_ble_eq_true rfl) (fun p e s m below meth c A ls C0 hl hP hS => w_X11_lastOf_0 C0 N z x1 x2 x3 hf s.heap [] ls hP hS (lv_sub (show lv_has ls 5 [(0, .ref h), (1, .int x1), (2, .int x2), (3, .int x3)] from hl) [0, 1, 2, 3] rfl))
/-! ===== TestedLoopsModel.ends(I)V ===== -/
abbrev rm_X11_ends : Room := { frames := 2, cells := 0, slots := 0, locals := 47 }
theorem iw_X11_ends_X11 : ∀ w ∈ wsX110, w ∈ wsX11_ends := fun w h => List.mem_cons_of_mem _ (List.mem_append_right _ h)
theorem qv_X11_ends : yX11_ends.cls = RX11 ∧ yX11_ends.cls ≠ "java/lang/invoke/MethodHandle" ∧ yX11_ends.cls ≠ "java/lang/invoke/VarHandle" ∧ (parseMethodDescriptor yX11_ends.desc).map (fun d => d.parameters.length) = some 1 := by decide +kernel
def f_X11_ends_50 (N : Nat) (k23 : ql_Z → Int32 → Int32 → Option (ql_Z)) (k37 : ql_Z → Int32 → Int32 → Int32 → Option (ql_Z)) : Nat → ql_Z → Int32 → Int32 → Int32 → Int32 → Option (ql_Z)
  | 0, _, _, _, _, _ => none
  | n + 1, z, x1, x2, x3, x4 => if 4 ≤ x4 then k37 z x1 x2 (x3 + 1) else if ql_ib x3 17 = true then (f_X11_lastOf N z x1 x3 x4).bind fun u2 => if ql_ib x3 17 = true then f_X11_ends_50 N k23 k37 n ((ql_up z.1 36 (upd (z.1 36) x3.toNatClampNeg (((z.1 36) x3.toNatClampNeg) ||| u2))), z.2) x1 x2 x3 (x4 + 1) else none else none
def f_X11_ends_37 (N : Nat) (k23 : ql_Z → Int32 → Int32 → Option (ql_Z)) : Nat → ql_Z → Int32 → Int32 → Int32 → Option (ql_Z)
  | 0, _, _, _, _ => none
  | n + 1, z, x1, x2, x3 => if ql_ib x1 5 = true then if ((z.1 9) x1.toNatClampNeg) < x3 then k23 z x1 (x2 + 1) else f_X11_ends_50 N k23 (f_X11_ends_37 N k23 n) N z x1 x2 x3 0 else none
def f_X11_ends_23 (N : Nat) : Nat → ql_Z → Int32 → Int32 → Option (ql_Z)
  | 0, _, _, _ => none
  | n + 1, z, x1, x2 => if ql_ib x1 5 = true then if (((z.1 9) x1.toNatClampNeg) + 1) < x2 then some z else f_X11_ends_37 N (f_X11_ends_23 N n) N z x1 x2 0 else none
def f_X11_ends_2 (N : Nat) : Nat → ql_Z → Int32 → Int32 → Option (ql_Z)
  | 0, _, _, _ => none
  | n + 1, z, x1, x2 => if 17 ≤ x2 then f_X11_ends_23 N N z x1 0 else if ql_ib x2 17 = true then f_X11_ends_2 N n ((ql_up z.1 36 (upd (z.1 36) x2.toNatClampNeg 0)), z.2) x1 (x2 + 1) else none
def f_X11_ends_0 (N : Nat) (z : ql_Z) (x1 : Int32) : Option (ql_Z) := f_X11_ends_2 N N z x1 0
def f_X11_ends (N : Nat) (z : ql_Z) (x1 : Int32) : Option (ql_Z) := f_X11_ends_0 N z x1
set_option maxHeartbeats 4000000 in
set_option maxRecDepth 100000 in
theorem w_X11_ends_50 {p : Program} {l : Launch} {e : Env} {s : State} {m : MethodId} {args : Array Value} {below : List Frame} {meth : Method} {c : Code} {dC : Nat → ClassId} {dI : Nat → Nat → Nat} {A : Nat → Prop} {h : Nat} {ad : Nat → Nat} {cI cZ cJ : ClassId} {res : ql_Z} (C0 : ql_C p s m args meth c cX11_ends 5 none wsX11_ends RX11 (dC, dI) [(cI, .int), (cZ, .boolean), (cJ, .long)] A) (N : Nat) (k23 : ql_Z → Int32 → Int32 → Option (ql_Z)) (hk23 : ∀ (z : ql_Z) (x1 : Int32) (x2 : Int32), k23 z x1 x2 = some res → ∀ (H : Heap) (locs : List Loc) (ls : Array Slot), va_P (dC, dI) vwCl ((ql_mw h ad cI cZ cJ) z) H → va_D A ((ql_mw h ad cI cZ cJ) z) → va_S A s.heap H locs → lv_has ls 5 [(0, .ref h), (1, .int x1), (2, .int x2)] → W p l e rm_X11_ends s m args below meth c H locs 0 0 (ql_Qv below (dC, dI) (ql_mw h ad cI cZ cJ) A args s res) (F0 m 23 ls [])) (k37 : ql_Z → Int32 → Int32 → Int32 → Option (ql_Z)) (hk37 : ∀ (z : ql_Z) (x1 : Int32) (x2 : Int32) (x3 : Int32), k37 z x1 x2 x3 = some res → ∀ (H : Heap) (locs : List Loc) (ls : Array Slot), va_P (dC, dI) vwCl ((ql_mw h ad cI cZ cJ) z) H → va_D A ((ql_mw h ad cI cZ cJ) z) → va_S A s.heap H locs → lv_has ls 5 [(0, .ref h), (1, .int x1), (2, .int x2), (3, .int x3)] → W p l e rm_X11_ends s m args below meth c H locs 0 0 (ql_Qv below (dC, dI) (ql_mw h ad cI cZ cJ) A args s res) (F0 m 37 ls [])) : ∀ (n : Nat), ∀ (z : ql_Z) (x1 : Int32) (x2 : Int32) (x3 : Int32) (x4 : Int32), f_X11_ends_50 N k23 k37 n z x1 x2 x3 x4 = some res → ∀ (H : Heap) (locs : List Loc) (ls : Array Slot), va_P (dC, dI) vwCl ((ql_mw h ad cI cZ cJ) z) H → va_D A ((ql_mw h ad cI cZ cJ) z) → va_S A s.heap H locs → lv_has ls 5 [(0, .ref h), (1, .int x1), (2, .int x2), (3, .int x3), (4, .int x4)] → W p l e rm_X11_ends s m args below meth c H locs 0 0 (ql_Qv below (dC, dI) (ql_mw h ad cI cZ cJ) A args s res) (F0 m 50 ls []) := by
  have C0q := C0
  obtain ⟨hx, hb, hr, hml, hown, hts, hlocks, hK, hA⟩ := C0q
  have fl83 := hts (Cond.fieldLink RX11 83 "TestedLoopsModel" "lasts" "[I") (by decide +kernel)
  intro n
  induction n with
  | zero =>
    intro z x1 x2 x3 x4 hf
    rw [f_X11_ends_50] at hf
    cases hf
  | succ n ih =>
    intro z x1 x2 x3 x4 hf H locs ls hP hD hS hl
    rw [f_X11_ends_50] at hf
    refine lv_iload hx hb dX11_ends_50 (lv_at hl 4 rfl) ?_
    refine lv_iconst (v := 4) hx hb dX11_ends_52 (by decide) ?_
    refine lv_icmp_ge (tgt := 79) hx hb dX11_ends_53 (by decide) (fun c1 => ?_) (fun c1 => ?_)
    · have hf := (if_pos c1).symm.trans hf
      refine lv_iinc (v := (x3 + 1)) (lv' := [(3, .int (x3 + 1)), (0, .ref h), (1, .int x1), (2, .int x2), (4, .int x4)]) hx hb dX11_ends_79 hl (k := 3) rfl rfl (by decide) rfl (fun ls hl => ?_)
      refine lv_goto (tgt := 37) hx hb dX11_ends_82 (by decide) ?_
      exact hk37 _ _ _ _ hf _ _ _ hP hD hS (lv_sub hl [1, 2, 3, 0] rfl)
    · have hf := (if_neg c1).symm.trans hf
      refine lv_aload_n hx hb dX11_ends_56 rfl (lv_at hl 0 rfl) ?_
      refine va_get (D := (dC, dI)) (ci := 11) (v := .ref (ad 36)) (C := RX11) (T := TX11) (N := 41) hx hb hts iw_X11_ends_X11 hown hK.1 hP 0 rfl rfl 36 (by decide) fl83 (fun _ h9 => h9) rfl dX11_ends_57 ?_
      refine lv_iload_n hx hb dX11_ends_60 rfl (lv_at hl 3 rfl) ?_
      refine lv_dup2_11 hx hb dX11_ends_61 rfl rfl ?_
      have g0 := ql_in (ql_gt hf)
      have hf := ql_gx hf
      refine va_iald (f := (z.1 36)) hx hb hK.1 hP 25 0 rfl rfl g0 dX11_ends_62 ?_
      refine lv_aload_n hx hb dX11_ends_63 rfl (lv_at hl 0 rfl) ?_
      refine lv_iload_n hx hb dX11_ends_64 rfl (lv_at hl 1 rfl) ?_
      refine lv_iload_n hx hb dX11_ends_65 rfl (lv_at hl 3 rfl) ?_
      refine lv_iload hx hb dX11_ends_66 (lv_at hl 4 rfl) ?_
      obtain ⟨u2, hu2, hf⟩ := ql_bd hf
      refine ql_callRVi (As := [.int x1, .int x3, .int x4]) (rest := [.int ((z.1 36) x3.toNatClampNeg), .int x3, .ref (ad 36)]) C0 (c_X11_lastOf l dC dI h ad cI cZ cJ N z x1 x3 x4 u2 hu2) (cwV 3 hts gX11_ends_X11_lastOf rfl rfl rfl qv_X11_lastOf ⟨Nat.le_of_ble_eq_true rfl, Nat.le_of_ble_eq_true rfl⟩) (va_recv hK.1 hP (ci := 11) (q0 := 0) rfl rfl) hK hP hS hl.1 rfl rfl (Nat.le_of_ble_eq_true rfl) dX11_ends_68 (fun H1 locs hk hS => ?_)
      have hP := ql_keep hP hk
      refine lv_ior hx hb dX11_ends_71 ?_
      have g0 := ql_in (ql_gt hf)
      have hf := ql_gx hf
      refine va_iast (f := (z.1 36)) hx hb hK.1 hP hD hS 25 0 rfl rfl g0 dX11_ends_72 (fun H locs hP hD hS => ?_)
      refine lv_iinc (v := (x4 + 1)) (lv' := [(4, .int (x4 + 1)), (0, .ref h), (1, .int x1), (2, .int x2), (3, .int x3)]) hx hb dX11_ends_73 hl (k := 4) rfl rfl (by decide) rfl (fun ls hl => ?_)
      refine lv_goto (tgt := 50) hx hb dX11_ends_76 (by decide) ?_
      exact ih _ _ _ _ _ hf _ _ _ hP hD hS (lv_sub hl [1, 2, 3, 4, 0] rfl)
set_option maxHeartbeats 4000000 in
set_option maxRecDepth 100000 in
theorem w_X11_ends_37 {p : Program} {l : Launch} {e : Env} {s : State} {m : MethodId} {args : Array Value} {below : List Frame} {meth : Method} {c : Code} {dC : Nat → ClassId} {dI : Nat → Nat → Nat} {A : Nat → Prop} {h : Nat} {ad : Nat → Nat} {cI cZ cJ : ClassId} {res : ql_Z} (C0 : ql_C p s m args meth c cX11_ends 5 none wsX11_ends RX11 (dC, dI) [(cI, .int), (cZ, .boolean), (cJ, .long)] A) (N : Nat) (k23 : ql_Z → Int32 → Int32 → Option (ql_Z)) (hk23 : ∀ (z : ql_Z) (x1 : Int32) (x2 : Int32), k23 z x1 x2 = some res → ∀ (H : Heap) (locs : List Loc) (ls : Array Slot), va_P (dC, dI) vwCl ((ql_mw h ad cI cZ cJ) z) H → va_D A ((ql_mw h ad cI cZ cJ) z) → va_S A s.heap H locs → lv_has ls 5 [(0, .ref h), (1, .int x1), (2, .int x2)] → W p l e rm_X11_ends s m args below meth c H locs 0 0 (ql_Qv below (dC, dI) (ql_mw h ad cI cZ cJ) A args s res) (F0 m 23 ls [])) : ∀ (n : Nat), ∀ (z : ql_Z) (x1 : Int32) (x2 : Int32) (x3 : Int32), f_X11_ends_37 N k23 n z x1 x2 x3 = some res → ∀ (H : Heap) (locs : List Loc) (ls : Array Slot), va_P (dC, dI) vwCl ((ql_mw h ad cI cZ cJ) z) H → va_D A ((ql_mw h ad cI cZ cJ) z) → va_S A s.heap H locs → lv_has ls 5 [(0, .ref h), (1, .int x1), (2, .int x2), (3, .int x3)] → W p l e rm_X11_ends s m args below meth c H locs 0 0 (ql_Qv below (dC, dI) (ql_mw h ad cI cZ cJ) A args s res) (F0 m 37 ls []) := by
  have C0q := C0
  obtain ⟨hx, hb, hr, hml, hown, hts, hlocks, hK, hA⟩ := C0q
  have fl31 := hts (Cond.fieldLink RX11 31 "TestedLoopsModel" "many" "[I") (by decide +kernel)
  intro n
  induction n with
  | zero =>
    intro z x1 x2 x3 hf
    rw [f_X11_ends_37] at hf
    cases hf
  | succ n ih =>
    intro z x1 x2 x3 hf H locs ls hP hD hS hl
    rw [f_X11_ends_37] at hf
    refine lv_iload_n hx hb dX11_ends_37 rfl (lv_at hl 3 rfl) ?_
    refine lv_aload_n hx hb dX11_ends_38 rfl (lv_at hl 0 rfl) ?_
    refine va_get (D := (dC, dI)) (ci := 11) (v := .ref (ad 9)) (C := RX11) (T := TX11) (N := 41) hx hb hts iw_X11_ends_X11 hown hK.1 hP 0 rfl rfl 9 (by decide) fl31 (fun _ h9 => h9) rfl dX11_ends_39 ?_
    refine lv_iload_n hx hb dX11_ends_42 rfl (lv_at hl 1 rfl) ?_
    have g0 := ql_in (ql_gt hf)
    have hf := ql_gx hf
    refine va_iald (f := (z.1 9)) hx hb hK.1 hP 8 0 rfl rfl g0 dX11_ends_43 ?_
    refine lv_icmp_gt (tgt := 85) hx hb dX11_ends_44 (by decide) (fun c3 => ?_) (fun c3 => ?_)
    · have hf := (if_pos c3).symm.trans hf
      refine lv_iinc (v := (x2 + 1)) (lv' := [(2, .int (x2 + 1)), (0, .ref h), (1, .int x1), (3, .int x3)]) hx hb dX11_ends_85 hl (k := 2) rfl rfl (by decide) rfl (fun ls hl => ?_)
      refine lv_goto (tgt := 23) hx hb dX11_ends_88 (by decide) ?_
      exact hk23 _ _ _ hf _ _ _ hP hD hS (lv_sub hl [1, 2, 0] rfl)
    · have hf := (if_neg c3).symm.trans hf
      refine lv_iconst (v := 0) hx hb dX11_ends_47 (by decide) ?_
      refine lv_istore (lv' := [(4, .int 0), (0, .ref h), (1, .int x1), (2, .int x2), (3, .int x3)]) hx hb dX11_ends_48 hl (by decide) rfl (fun ls hl => ?_)
      exact w_X11_ends_50 C0 N k23 hk23 (f_X11_ends_37 N k23 n) ih N _ _ _ _ _ hf _ _ _ hP hD hS (lv_sub hl [1, 2, 3, 4, 0] rfl)
set_option maxHeartbeats 4000000 in
set_option maxRecDepth 100000 in
theorem w_X11_ends_23 {p : Program} {l : Launch} {e : Env} {s : State} {m : MethodId} {args : Array Value} {below : List Frame} {meth : Method} {c : Code} {dC : Nat → ClassId} {dI : Nat → Nat → Nat} {A : Nat → Prop} {h : Nat} {ad : Nat → Nat} {cI cZ cJ : ClassId} {res : ql_Z} (C0 : ql_C p s m args meth c cX11_ends 5 none wsX11_ends RX11 (dC, dI) [(cI, .int), (cZ, .boolean), (cJ, .long)] A) (N : Nat) : ∀ (n : Nat), ∀ (z : ql_Z) (x1 : Int32) (x2 : Int32), f_X11_ends_23 N n z x1 x2 = some res → ∀ (H : Heap) (locs : List Loc) (ls : Array Slot), va_P (dC, dI) vwCl ((ql_mw h ad cI cZ cJ) z) H → va_D A ((ql_mw h ad cI cZ cJ) z) → va_S A s.heap H locs → lv_has ls 5 [(0, .ref h), (1, .int x1), (2, .int x2)] → W p l e rm_X11_ends s m args below meth c H locs 0 0 (ql_Qv below (dC, dI) (ql_mw h ad cI cZ cJ) A args s res) (F0 m 23 ls []) := by
  have C0q := C0
  obtain ⟨hx, hb, hr, hml, hown, hts, hlocks, hK, hA⟩ := C0q
  have fl31 := hts (Cond.fieldLink RX11 31 "TestedLoopsModel" "many" "[I") (by decide +kernel)
  intro n
  induction n with
  | zero =>
    intro z x1 x2 hf
    rw [f_X11_ends_23] at hf
    cases hf
  | succ n ih =>
    intro z x1 x2 hf H locs ls hP hD hS hl
    rw [f_X11_ends_23] at hf
    refine lv_iload_n hx hb dX11_ends_23 rfl (lv_at hl 2 rfl) ?_
    refine lv_aload_n hx hb dX11_ends_24 rfl (lv_at hl 0 rfl) ?_
    refine va_get (D := (dC, dI)) (ci := 11) (v := .ref (ad 9)) (C := RX11) (T := TX11) (N := 41) hx hb hts iw_X11_ends_X11 hown hK.1 hP 0 rfl rfl 9 (by decide) fl31 (fun _ h9 => h9) rfl dX11_ends_25 ?_
    refine lv_iload_n hx hb dX11_ends_28 rfl (lv_at hl 1 rfl) ?_
    have g0 := ql_in (ql_gt hf)
    have hf := ql_gx hf
    refine va_iald (f := (z.1 9)) hx hb hK.1 hP 8 0 rfl rfl g0 dX11_ends_29 ?_
    refine lv_iconst (v := 1) hx hb dX11_ends_30 (by decide) ?_
    refine lv_iadd hx hb dX11_ends_31 ?_
    refine lv_icmp_gt (tgt := 91) hx hb dX11_ends_32 (by decide) (fun c4 => ?_) (fun c4 => ?_)
    · have hf := (if_pos c4).symm.trans hf
      exact ql_vret C0 hf hP hD hS dX11_ends_91
    · have hf := (if_neg c4).symm.trans hf
      refine lv_iconst (v := 0) hx hb dX11_ends_35 (by decide) ?_
      refine lv_istore_n (lv' := [(3, .int 0), (0, .ref h), (1, .int x1), (2, .int x2)]) hx hb dX11_ends_36 rfl hl (by decide) rfl (fun ls hl => ?_)
      exact w_X11_ends_37 C0 N (f_X11_ends_23 N n) ih N _ _ _ _ hf _ _ _ hP hD hS (lv_sub hl [1, 2, 3, 0] rfl)
set_option maxHeartbeats 4000000 in
set_option maxRecDepth 100000 in
theorem w_X11_ends_2 {p : Program} {l : Launch} {e : Env} {s : State} {m : MethodId} {args : Array Value} {below : List Frame} {meth : Method} {c : Code} {dC : Nat → ClassId} {dI : Nat → Nat → Nat} {A : Nat → Prop} {h : Nat} {ad : Nat → Nat} {cI cZ cJ : ClassId} {res : ql_Z} (C0 : ql_C p s m args meth c cX11_ends 5 none wsX11_ends RX11 (dC, dI) [(cI, .int), (cZ, .boolean), (cJ, .long)] A) (N : Nat) : ∀ (n : Nat), ∀ (z : ql_Z) (x1 : Int32) (x2 : Int32), f_X11_ends_2 N n z x1 x2 = some res → ∀ (H : Heap) (locs : List Loc) (ls : Array Slot), va_P (dC, dI) vwCl ((ql_mw h ad cI cZ cJ) z) H → va_D A ((ql_mw h ad cI cZ cJ) z) → va_S A s.heap H locs → lv_has ls 5 [(0, .ref h), (1, .int x1), (2, .int x2)] → W p l e rm_X11_ends s m args below meth c H locs 0 0 (ql_Qv below (dC, dI) (ql_mw h ad cI cZ cJ) A args s res) (F0 m 2 ls []) := by
  have C0q := C0
  obtain ⟨hx, hb, hr, hml, hown, hts, hlocks, hK, hA⟩ := C0q
  have fl83 := hts (Cond.fieldLink RX11 83 "TestedLoopsModel" "lasts" "[I") (by decide +kernel)
  intro n
  induction n with
  | zero =>
    intro z x1 x2 hf
    rw [f_X11_ends_2] at hf
    cases hf
  | succ n ih =>
    intro z x1 x2 hf H locs ls hP hD hS hl
    rw [f_X11_ends_2] at hf
    refine lv_iload_n hx hb dX11_ends_2 rfl (lv_at hl 2 rfl) ?_
    refine lv_bipush (v := 17) hx hb dX11_ends_3 (by decide) ?_
    refine lv_icmp_ge (tgt := 21) hx hb dX11_ends_5 (by decide) (fun c5 => ?_) (fun c5 => ?_)
    · have hf := (if_pos c5).symm.trans hf
      refine lv_iconst (v := 0) hx hb dX11_ends_21 (by decide) ?_
      refine lv_istore_n (lv' := [(2, .int 0), (0, .ref h), (1, .int x1)]) hx hb dX11_ends_22 rfl hl (by decide) rfl (fun ls hl => ?_)
      exact w_X11_ends_23 C0 N N _ _ _ hf _ _ _ hP hD hS (lv_sub hl [1, 2, 0] rfl)
    · have hf := (if_neg c5).symm.trans hf
      refine lv_aload_n hx hb dX11_ends_8 rfl (lv_at hl 0 rfl) ?_
      refine va_get (D := (dC, dI)) (ci := 11) (v := .ref (ad 36)) (C := RX11) (T := TX11) (N := 41) hx hb hts iw_X11_ends_X11 hown hK.1 hP 0 rfl rfl 36 (by decide) fl83 (fun _ h9 => h9) rfl dX11_ends_9 ?_
      refine lv_iload_n hx hb dX11_ends_12 rfl (lv_at hl 2 rfl) ?_
      refine lv_iconst (v := 0) hx hb dX11_ends_13 (by decide) ?_
      have g0 := ql_in (ql_gt hf)
      have hf := ql_gx hf
      refine va_iast (f := (z.1 36)) hx hb hK.1 hP hD hS 25 0 rfl rfl g0 dX11_ends_14 (fun H locs hP hD hS => ?_)
      refine lv_iinc (v := (x2 + 1)) (lv' := [(2, .int (x2 + 1)), (0, .ref h), (1, .int x1)]) hx hb dX11_ends_15 hl (k := 2) rfl rfl (by decide) rfl (fun ls hl => ?_)
      refine lv_goto (tgt := 2) hx hb dX11_ends_18 (by decide) ?_
      exact ih _ _ _ hf _ _ _ hP hD hS (lv_sub hl [1, 2, 0] rfl)
set_option maxHeartbeats 4000000 in
set_option maxRecDepth 100000 in
theorem w_X11_ends_0 {p : Program} {l : Launch} {e : Env} {s : State} {m : MethodId} {args : Array Value} {below : List Frame} {meth : Method} {c : Code} {dC : Nat → ClassId} {dI : Nat → Nat → Nat} {A : Nat → Prop} {h : Nat} {ad : Nat → Nat} {cI cZ cJ : ClassId} {res : ql_Z} (C0 : ql_C p s m args meth c cX11_ends 5 none wsX11_ends RX11 (dC, dI) [(cI, .int), (cZ, .boolean), (cJ, .long)] A) (N : Nat) : ∀ (z : ql_Z) (x1 : Int32), f_X11_ends_0 N z x1 = some res → ∀ (H : Heap) (locs : List Loc) (ls : Array Slot), va_P (dC, dI) vwCl ((ql_mw h ad cI cZ cJ) z) H → va_D A ((ql_mw h ad cI cZ cJ) z) → va_S A s.heap H locs → lv_has ls 5 [(0, .ref h), (1, .int x1)] → W p l e rm_X11_ends s m args below meth c H locs 0 0 (ql_Qv below (dC, dI) (ql_mw h ad cI cZ cJ) A args s res) (F0 m 0 ls []) := by
  have C0q := C0
  obtain ⟨hx, hb, hr, hml, hown, hts, hlocks, hK, hA⟩ := C0q
  intro z x1 hf H locs ls hP hD hS hl
  unfold f_X11_ends_0 at hf
  refine lv_iconst (v := 0) hx hb dX11_ends_0 (by decide) ?_
  refine lv_istore_n (lv' := [(2, .int 0), (0, .ref h), (1, .int x1)]) hx hb dX11_ends_1 rfl hl (by decide) rfl (fun ls hl => ?_)
  exact w_X11_ends_2 C0 N N _ _ _ hf _ _ _ hP hD hS (lv_sub hl [1, 2, 0] rfl)
set_option maxRecDepth 100000 in
theorem c_X11_ends (l : Launch) (dC : Nat → ClassId) (dI : Nat → Nat → Nat) (h : Nat) (ad : Nat → Nat) (cI cZ cJ : ClassId) (N : Nat) (z : ql_Z) (x1 : Int32) (res : ql_Z) (hf : f_X11_ends N z x1 = some res) : ql_Mv l yX11_ends wsX11_ends rm_X11_ends (dC, dI) [(cI, .int), (cZ, .boolean), (cJ, .long)] (ql_mw h ad cI cZ cJ) [.ref h, .int x1] z res :=
  ql_start_v (by decide) rfl (Nat.le_of_ble_eq_true rfl) (fun p e s m below meth c A ls C0 hl hP hD hS => w_X11_ends_0 C0 N z x1 hf s.heap [] ls hP hD hS (lv_sub (show lv_has ls 5 [(0, .ref h), (1, .int x1)] from hl) [0, 1] rfl))
/-! ===== TestedLoopsModel.ahead(II)I ===== -/
abbrev rm_X11_ahead : Room := { frames := 3, cells := 0, slots := 0, locals := 71 }
theorem iw_X11_ahead_X11 : ∀ w ∈ wsX110, w ∈ wsX11_ahead := fun w h => List.mem_cons_of_mem _ (List.mem_append_right _ h)
theorem qv_X11_ahead : yX11_ahead.cls = RX11 ∧ yX11_ahead.cls ≠ "java/lang/invoke/MethodHandle" ∧ yX11_ahead.cls ≠ "java/lang/invoke/VarHandle" ∧ (parseMethodDescriptor yX11_ahead.desc).map (fun d => d.parameters.length) = some 2 := by decide +kernel
def f_X11_ahead_56 (N : Nat) (k26 : ql_Z → Int32 → Int32 → Int32 → Int32 → Option (Int32 × ql_Z)) (z : ql_Z) (x1 : Int32) (x2 : Int32) (x4 : Int32) (y0 : Int32) (y1 : Int32) : Option (Int32 × ql_Z) := k26 z x1 x2 (y1 ||| y0) (x4 + 1)
def f_X11_ahead_26 (N : Nat) : Nat → ql_Z → Int32 → Int32 → Int32 → Int32 → Option (Int32 × ql_Z)
  | 0, _, _, _, _, _ => none
  | n + 1, z, x1, x2, x3, x4 => if 4 ≤ x4 then some (x3, z) else (f_X11_lastOf N z x1 0 x4).bind fun u2 => if (u2 &&& (x2 ^^^ (-1))) = 0 then f_X11_ahead_56 N (f_X11_ahead_26 N n) z x1 x2 x4 ((1 : Int32) <<< (x4 &&& 31)) x3 else f_X11_ahead_56 N (f_X11_ahead_26 N n) z x1 x2 x4 0 x3
def f_X11_ahead_0 (N : Nat) (z : ql_Z) (x1 : Int32) (x2 : Int32) : Option (Int32 × ql_Z) := (f_X11_isProgram N x1).bind fun u4 => if u4 = 0 then some ((-1), z) else (f_X11_isSet N x2).bind fun u6 => if u6 = 0 then some ((-1), z) else (f_X11_ends N z x1).bind fun u8 => f_X11_ahead_26 N N u8 x1 x2 0 0
def f_X11_ahead (N : Nat) (z : ql_Z) (x1 : Int32) (x2 : Int32) : Option (Int32 × ql_Z) := f_X11_ahead_0 N z x1 x2
set_option maxHeartbeats 4000000 in
set_option maxRecDepth 100000 in
theorem w_X11_ahead_56 {p : Program} {l : Launch} {e : Env} {s : State} {m : MethodId} {args : Array Value} {below : List Frame} {meth : Method} {c : Code} {dC : Nat → ClassId} {dI : Nat → Nat → Nat} {A : Nat → Prop} {h : Nat} {ad : Nat → Nat} {cI cZ cJ : ClassId} {res : Int32 × ql_Z} (C0 : ql_C p s m args meth c cX11_ahead 5 (some .int) wsX11_ahead RX11 (dC, dI) [(cI, .int), (cZ, .boolean), (cJ, .long)] A) (N : Nat) (k26 : ql_Z → Int32 → Int32 → Int32 → Int32 → Option (Int32 × ql_Z)) (hk26 : ∀ (z : ql_Z) (x1 : Int32) (x2 : Int32) (x3 : Int32) (x4 : Int32), k26 z x1 x2 x3 x4 = some res → ∀ (H : Heap) (locs : List Loc) (ls : Array Slot), va_P (dC, dI) vwCl ((ql_mw h ad cI cZ cJ) z) H → va_D A ((ql_mw h ad cI cZ cJ) z) → va_S A s.heap H locs → lv_has ls 5 [(0, .ref h), (1, .int x1), (2, .int x2), (3, .int x3), (4, .int x4)] → W p l e rm_X11_ahead s m args below meth c H locs 0 0 (ql_Qi below (dC, dI) (ql_mw h ad cI cZ cJ) A args s res) (F0 m 26 ls [])) : ∀ (z : ql_Z) (x1 : Int32) (x2 : Int32) (x4 : Int32) (y0 : Int32) (y1 : Int32), f_X11_ahead_56 N k26 z x1 x2 x4 y0 y1 = some res → ∀ (H : Heap) (locs : List Loc) (ls : Array Slot), va_P (dC, dI) vwCl ((ql_mw h ad cI cZ cJ) z) H → va_D A ((ql_mw h ad cI cZ cJ) z) → va_S A s.heap H locs → lv_has ls 5 [(0, .ref h), (1, .int x1), (2, .int x2), (4, .int x4)] → W p l e rm_X11_ahead s m args below meth c H locs 0 0 (ql_Qi below (dC, dI) (ql_mw h ad cI cZ cJ) A args s res) (F0 m 56 ls [.int y0, .int y1]) := by
  have C0q := C0
  obtain ⟨hx, hb, hr, hml, hown, hts, hlocks, hK, hA⟩ := C0q
  intro z x1 x2 x4 y0 y1 hf H locs ls hP hD hS hl
  unfold f_X11_ahead_56 at hf
  refine lv_ior hx hb dX11_ahead_56 ?_
  refine lv_istore_n (lv' := [(3, .int (y1 ||| y0)), (0, .ref h), (1, .int x1), (2, .int x2), (4, .int x4)]) hx hb dX11_ahead_57 rfl hl (by decide) rfl (fun ls hl => ?_)
  refine lv_iinc (v := (x4 + 1)) (lv' := [(4, .int (x4 + 1)), (3, .int (y1 ||| y0)), (0, .ref h), (1, .int x1), (2, .int x2)]) hx hb dX11_ahead_58 hl (k := 4) rfl rfl (by decide) rfl (fun ls hl => ?_)
  refine lv_goto (tgt := 26) hx hb dX11_ahead_61 (by decide) ?_
  exact hk26 _ _ _ _ _ hf _ _ _ hP hD hS (lv_sub hl [2, 3, 4, 1, 0] rfl)
set_option maxHeartbeats 4000000 in
set_option maxRecDepth 100000 in
theorem w_X11_ahead_26 {p : Program} {l : Launch} {e : Env} {s : State} {m : MethodId} {args : Array Value} {below : List Frame} {meth : Method} {c : Code} {dC : Nat → ClassId} {dI : Nat → Nat → Nat} {A : Nat → Prop} {h : Nat} {ad : Nat → Nat} {cI cZ cJ : ClassId} {res : Int32 × ql_Z} (C0 : ql_C p s m args meth c cX11_ahead 5 (some .int) wsX11_ahead RX11 (dC, dI) [(cI, .int), (cZ, .boolean), (cJ, .long)] A) (N : Nat) : ∀ (n : Nat), ∀ (z : ql_Z) (x1 : Int32) (x2 : Int32) (x3 : Int32) (x4 : Int32), f_X11_ahead_26 N n z x1 x2 x3 x4 = some res → ∀ (H : Heap) (locs : List Loc) (ls : Array Slot), va_P (dC, dI) vwCl ((ql_mw h ad cI cZ cJ) z) H → va_D A ((ql_mw h ad cI cZ cJ) z) → va_S A s.heap H locs → lv_has ls 5 [(0, .ref h), (1, .int x1), (2, .int x2), (3, .int x3), (4, .int x4)] → W p l e rm_X11_ahead s m args below meth c H locs 0 0 (ql_Qi below (dC, dI) (ql_mw h ad cI cZ cJ) A args s res) (F0 m 26 ls []) := by
  have C0q := C0
  obtain ⟨hx, hb, hr, hml, hown, hts, hlocks, hK, hA⟩ := C0q
  intro n
  induction n with
  | zero =>
    intro z x1 x2 x3 x4 hf
    rw [f_X11_ahead_26] at hf
    cases hf
  | succ n ih =>
    intro z x1 x2 x3 x4 hf H locs ls hP hD hS hl
    rw [f_X11_ahead_26] at hf
    refine lv_iload hx hb dX11_ahead_26 (lv_at hl 4 rfl) ?_
    refine lv_iconst (v := 4) hx hb dX11_ahead_28 (by decide) ?_
    refine lv_icmp_ge (tgt := 64) hx hb dX11_ahead_29 (by decide) (fun c1 => ?_) (fun c1 => ?_)
    · have hf := (if_pos c1).symm.trans hf
      refine lv_iload_n hx hb dX11_ahead_64 rfl (lv_at hl 3 rfl) ?_
      exact ql_iret C0 hf hP hD hS dX11_ahead_65
    · have hf := (if_neg c1).symm.trans hf
      refine lv_iload_n hx hb dX11_ahead_32 rfl (lv_at hl 3 rfl) ?_
      refine lv_aload_n hx hb dX11_ahead_33 rfl (lv_at hl 0 rfl) ?_
      refine lv_iload_n hx hb dX11_ahead_34 rfl (lv_at hl 1 rfl) ?_
      refine lv_iconst (v := 0) hx hb dX11_ahead_35 (by decide) ?_
      refine lv_iload hx hb dX11_ahead_36 (lv_at hl 4 rfl) ?_
      obtain ⟨u2, hu2, hf⟩ := ql_bd hf
      refine ql_callRVi (As := [.int x1, .int 0, .int x4]) (rest := [.int x3]) C0 (c_X11_lastOf l dC dI h ad cI cZ cJ N z x1 0 x4 u2 hu2) (cwV 3 hts gX11_ahead_X11_lastOf rfl rfl rfl qv_X11_lastOf ⟨Nat.le_of_ble_eq_true rfl, Nat.le_of_ble_eq_true rfl⟩) (va_recv hK.1 hP (ci := 11) (q0 := 0) rfl rfl) hK hP hS hl.1 rfl rfl (Nat.le_of_ble_eq_true rfl) dX11_ahead_38 (fun H1 locs hk hS => ?_)
      have hP := ql_keep hP hk
      refine lv_iload_n hx hb dX11_ahead_41 rfl (lv_at hl 2 rfl) ?_
      refine lv_iconst (v := (-1)) hx hb dX11_ahead_42 (by decide) ?_
      refine lv_ixor hx hb dX11_ahead_43 ?_
      refine lv_iand hx hb dX11_ahead_44 ?_
      refine lv_if_ne (tgt := 55) hx hb dX11_ahead_45 (by decide) (fun c3 => ?_) (fun c3 => ?_)
      · have hf := (if_neg c3).symm.trans hf
        refine lv_iconst (v := 0) hx hb dX11_ahead_55 (by decide) ?_
        exact w_X11_ahead_56 C0 N (f_X11_ahead_26 N n) ih _ _ _ _ _ _ hf _ _ _ hP hD hS (lv_sub hl [0, 1, 2, 4] rfl)
      · have hf := (if_pos c3).symm.trans hf
        refine lv_iconst (v := 1) hx hb dX11_ahead_48 (by decide) ?_
        refine lv_iload hx hb dX11_ahead_49 (lv_at hl 4 rfl) ?_
        refine lv_ishl hx hb dX11_ahead_51 ?_
        refine lv_goto (tgt := 56) hx hb dX11_ahead_52 (by decide) ?_
        exact w_X11_ahead_56 C0 N (f_X11_ahead_26 N n) ih _ _ _ _ _ _ hf _ _ _ hP hD hS (lv_sub hl [0, 1, 2, 4] rfl)
set_option maxHeartbeats 4000000 in
set_option maxRecDepth 100000 in
theorem w_X11_ahead_0 {p : Program} {l : Launch} {e : Env} {s : State} {m : MethodId} {args : Array Value} {below : List Frame} {meth : Method} {c : Code} {dC : Nat → ClassId} {dI : Nat → Nat → Nat} {A : Nat → Prop} {h : Nat} {ad : Nat → Nat} {cI cZ cJ : ClassId} {res : Int32 × ql_Z} (C0 : ql_C p s m args meth c cX11_ahead 5 (some .int) wsX11_ahead RX11 (dC, dI) [(cI, .int), (cZ, .boolean), (cJ, .long)] A) (N : Nat) : ∀ (z : ql_Z) (x1 : Int32) (x2 : Int32), f_X11_ahead_0 N z x1 x2 = some res → ∀ (H : Heap) (locs : List Loc) (ls : Array Slot), va_P (dC, dI) vwCl ((ql_mw h ad cI cZ cJ) z) H → va_D A ((ql_mw h ad cI cZ cJ) z) → va_S A s.heap H locs → lv_has ls 5 [(0, .ref h), (1, .int x1), (2, .int x2)] → W p l e rm_X11_ahead s m args below meth c H locs 0 0 (ql_Qi below (dC, dI) (ql_mw h ad cI cZ cJ) A args s res) (F0 m 0 ls []) := by
  have C0q := C0
  obtain ⟨hx, hb, hr, hml, hown, hts, hlocks, hK, hA⟩ := C0q
  intro z x1 x2 hf H locs ls hP hD hS hl
  unfold f_X11_ahead_0 at hf
  refine lv_iload_n hx hb dX11_ahead_0 rfl (lv_at hl 1 rfl) ?_
  obtain ⟨u4, hu4, hf⟩ := ql_bd hf
  refine ql_callRSi (As := [.int x1]) (rest := []) C0 (c_X11_isProgram l dC dI N x1 u4 hu4) (va_cwS 1 hts gX11_ahead_X11_isProgram rfl rfl rfl qd_X11_isProgram ⟨Nat.le_of_ble_eq_true rfl, Nat.le_of_ble_eq_true rfl⟩) (hK.sub [] rfl) ql_nil hS hl.1 rfl rfl (Nat.le_of_ble_eq_true rfl) dX11_ahead_1 (fun H1 locs hk hS => ?_)
  have hP := ql_keep hP hk
  refine lv_if_eq (tgt := 14) hx hb dX11_ahead_4 (by decide) (fun c5 => ?_) (fun c5 => ?_)
  · have hf := (if_pos c5).symm.trans hf
    refine lv_iconst (v := (-1)) hx hb dX11_ahead_14 (by decide) ?_
    exact ql_iret C0 hf hP hD hS dX11_ahead_15
  · have hf := (if_neg c5).symm.trans hf
    refine lv_iload_n hx hb dX11_ahead_7 rfl (lv_at hl 2 rfl) ?_
    obtain ⟨u6, hu6, hf⟩ := ql_bd hf
    refine ql_callRSi (As := [.int x2]) (rest := []) C0 (c_X11_isSet l dC dI N x2 u6 hu6) (va_cwS 1 hts gX11_ahead_X11_isSet rfl rfl rfl qd_X11_isSet ⟨Nat.le_of_ble_eq_true rfl, Nat.le_of_ble_eq_true rfl⟩) (hK.sub [] rfl) ql_nil hS hl.1 rfl rfl (Nat.le_of_ble_eq_true rfl) dX11_ahead_8 (fun H1 locs hk hS => ?_)
    have hP := ql_keep hP hk
    refine lv_if_ne (tgt := 16) hx hb dX11_ahead_11 (by decide) (fun c7 => ?_) (fun c7 => ?_)
    · have hf := (if_neg c7).symm.trans hf
      refine lv_aload_n hx hb dX11_ahead_16 rfl (lv_at hl 0 rfl) ?_
      refine lv_iload_n hx hb dX11_ahead_17 rfl (lv_at hl 1 rfl) ?_
      obtain ⟨u8, hu8, hf⟩ := ql_bd hf
      refine ql_callVv (As := [.int x1]) (rest := []) C0 (c_X11_ends l dC dI h ad cI cZ cJ N z x1 u8 hu8) (cwV 1 hts gX11_ahead_X11_ends rfl rfl rfl qv_X11_ends ⟨Nat.le_of_ble_eq_true rfl, Nat.le_of_ble_eq_true rfl⟩) (va_recv hK.1 hP (ci := 11) (q0 := 0) rfl rfl) hP hD hS hl.1 rfl rfl (Nat.le_of_ble_eq_true rfl) dX11_ahead_18 (fun H locs hP hD hS => ?_)
      refine lv_iconst (v := 0) hx hb dX11_ahead_21 (by decide) ?_
      refine lv_istore_n (lv' := [(3, .int 0), (0, .ref h), (1, .int x1), (2, .int x2)]) hx hb dX11_ahead_22 rfl hl (by decide) rfl (fun ls hl => ?_)
      refine lv_iconst (v := 0) hx hb dX11_ahead_23 (by decide) ?_
      refine lv_istore (lv' := [(4, .int 0), (3, .int 0), (0, .ref h), (1, .int x1), (2, .int x2)]) hx hb dX11_ahead_24 hl (by decide) rfl (fun ls hl => ?_)
      exact w_X11_ahead_26 C0 N N _ _ _ _ _ hf _ _ _ hP hD hS (lv_sub hl [2, 3, 4, 1, 0] rfl)
    · have hf := (if_pos c7).symm.trans hf
      refine lv_iconst (v := (-1)) hx hb dX11_ahead_14 (by decide) ?_
      exact ql_iret C0 hf hP hD hS dX11_ahead_15
set_option maxRecDepth 100000 in
theorem c_X11_ahead (l : Launch) (dC : Nat → ClassId) (dI : Nat → Nat → Nat) (h : Nat) (ad : Nat → Nat) (cI cZ cJ : ClassId) (N : Nat) (z : ql_Z) (x1 : Int32) (x2 : Int32) (res : Int32 × ql_Z) (hf : f_X11_ahead N z x1 x2 = some res) : ql_Mi l yX11_ahead wsX11_ahead rm_X11_ahead (dC, dI) [(cI, .int), (cZ, .boolean), (cJ, .long)] (ql_mw h ad cI cZ cJ) [.ref h, .int x1, .int x2] z res :=
  ql_start_i (by decide) rfl (Nat.le_of_ble_eq_true rfl) (fun p e s m below meth c A ls C0 hl hP hD hS => w_X11_ahead_0 C0 N z x1 x2 hf s.heap [] ls hP hD hS (lv_sub (show lv_has ls 5 [(0, .ref h), (1, .int x1), (2, .int x2)] from hl) [0, 1, 2] rfl))
