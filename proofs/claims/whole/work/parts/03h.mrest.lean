/-! ===== TestedLoopsModel.behind(II)I ===== -/
abbrev rm_X11_behind : Room := { frames := 3, cells := 0, slots := 0, locals := 71 }
theorem iw_X11_behind_X11 : ∀ w ∈ wsX110, w ∈ wsX11_behind := fun w h => List.mem_cons_of_mem _ (List.mem_append_right _ h)
theorem qv_X11_behind : yX11_behind.cls = RX11 ∧ yX11_behind.cls ≠ "java/lang/invoke/MethodHandle" ∧ yX11_behind.cls ≠ "java/lang/invoke/VarHandle" ∧ (parseMethodDescriptor yX11_behind.desc).map (fun d => d.parameters.length) = some 2 := by decide +kernel
def f_X11_behind_55 (N : Nat) (k26 : ql_Z → Int32 → Int32 → Int32 → Int32 → Option (Int32 × ql_Z)) (z : ql_Z) (x1 : Int32) (x2 : Int32) (x4 : Int32) (y0 : Int32) (y1 : Int32) : Option (Int32 × ql_Z) := k26 z x1 x2 (y1 ||| y0) (x4 + 1)
def f_X11_behind_26 (N : Nat) : Nat → ql_Z → Int32 → Int32 → Int32 → Int32 → Option (Int32 × ql_Z)
  | 0, _, _, _, _, _ => none
  | n + 1, z, x1, x2, x3, x4 => if 4 ≤ x4 then some (x3, z) else if ((x2 >>> (x4 &&& 31)) &&& 1) = 1 then (f_X11_lastOf N z x1 0 x4).bind fun u3 => f_X11_behind_55 N (f_X11_behind_26 N n) z x1 x2 x4 u3 x3 else f_X11_behind_55 N (f_X11_behind_26 N n) z x1 x2 x4 0 x3
def f_X11_behind_0 (N : Nat) (z : ql_Z) (x1 : Int32) (x2 : Int32) : Option (Int32 × ql_Z) := (f_X11_isProgram N x1).bind fun u4 => if u4 = 0 then some ((-1), z) else (f_X11_isSet N x2).bind fun u6 => if u6 = 0 then some ((-1), z) else (f_X11_ends N z x1).bind fun u8 => f_X11_behind_26 N N u8 x1 x2 0 0
def f_X11_behind (N : Nat) (z : ql_Z) (x1 : Int32) (x2 : Int32) : Option (Int32 × ql_Z) := f_X11_behind_0 N z x1 x2
set_option maxHeartbeats 4000000 in
set_option maxRecDepth 100000 in
theorem w_X11_behind_55 {p : Program} {l : Launch} {e : Env} {s : State} {m : MethodId} {args : Array Value} {below : List Frame} {meth : Method} {c : Code} {dC : Nat → ClassId} {dI : Nat → Nat → Nat} {A : Nat → Prop} {h : Nat} {ad : Nat → Nat} {cI cZ cJ : ClassId} {res : Int32 × ql_Z} (C0 : ql_C p s m args meth c cX11_behind 5 (some .int) wsX11_behind RX11 (dC, dI) [(cI, .int), (cZ, .boolean), (cJ, .long)] A) (N : Nat) (k26 : ql_Z → Int32 → Int32 → Int32 → Int32 → Option (Int32 × ql_Z)) (hk26 : ∀ (z : ql_Z) (x1 : Int32) (x2 : Int32) (x3 : Int32) (x4 : Int32), k26 z x1 x2 x3 x4 = some res → ∀ (H : Heap) (locs : List Loc) (ls : Array Slot), va_P (dC, dI) vwCl ((ql_mw h ad cI cZ cJ) z) H → va_D A ((ql_mw h ad cI cZ cJ) z) → va_S A s.heap H locs → lv_has ls 5 [(0, .ref h), (1, .int x1), (2, .int x2), (3, .int x3), (4, .int x4)] → W p l e rm_X11_behind s m args below meth c H locs 0 0 (ql_Qi below (dC, dI) (ql_mw h ad cI cZ cJ) A args s res) (F0 m 26 ls [])) : ∀ (z : ql_Z) (x1 : Int32) (x2 : Int32) (x4 : Int32) (y0 : Int32) (y1 : Int32), f_X11_behind_55 N k26 z x1 x2 x4 y0 y1 = some res → ∀ (H : Heap) (locs : List Loc) (ls : Array Slot), va_P (dC, dI) vwCl ((ql_mw h ad cI cZ cJ) z) H → va_D A ((ql_mw h ad cI cZ cJ) z) → va_S A s.heap H locs → lv_has ls 5 [(0, .ref h), (1, .int x1), (2, .int x2), (4, .int x4)] → W p l e rm_X11_behind s m args below meth c H locs 0 0 (ql_Qi below (dC, dI) (ql_mw h ad cI cZ cJ) A args s res) (F0 m 55 ls [.int y0, .int y1]) := by
  have C0q := C0
  obtain ⟨hx, hb, hr, hml, hown, hts, hlocks, hK, hA⟩ := C0q
  intro z x1 x2 x4 y0 y1 hf H locs ls hP hD hS hl
  unfold f_X11_behind_55 at hf
  refine lv_ior hx hb dX11_behind_55 ?_
  refine lv_istore_n (lv' := [(3, .int (y1 ||| y0)), (0, .ref h), (1, .int x1), (2, .int x2), (4, .int x4)]) hx hb dX11_behind_56 rfl hl (by decide) rfl (fun ls hl => ?_)
  refine lv_iinc (v := (x4 + 1)) (lv' := [(4, .int (x4 + 1)), (3, .int (y1 ||| y0)), (0, .ref h), (1, .int x1), (2, .int x2)]) hx hb dX11_behind_57 hl (k := 4) rfl rfl (by decide) rfl (fun ls hl => ?_)
  refine lv_goto (tgt := 26) hx hb dX11_behind_60 (by decide) ?_
  exact hk26 _ _ _ _ _ hf _ _ _ hP hD hS (lv_sub hl [2, 3, 4, 1, 0] rfl)
set_option maxHeartbeats 4000000 in
set_option maxRecDepth 100000 in
theorem w_X11_behind_26 {p : Program} {l : Launch} {e : Env} {s : State} {m : MethodId} {args : Array Value} {below : List Frame} {meth : Method} {c : Code} {dC : Nat → ClassId} {dI : Nat → Nat → Nat} {A : Nat → Prop} {h : Nat} {ad : Nat → Nat} {cI cZ cJ : ClassId} {res : Int32 × ql_Z} (C0 : ql_C p s m args meth c cX11_behind 5 (some .int) wsX11_behind RX11 (dC, dI) [(cI, .int), (cZ, .boolean), (cJ, .long)] A) (N : Nat) : ∀ (n : Nat), ∀ (z : ql_Z) (x1 : Int32) (x2 : Int32) (x3 : Int32) (x4 : Int32), f_X11_behind_26 N n z x1 x2 x3 x4 = some res → ∀ (H : Heap) (locs : List Loc) (ls : Array Slot), va_P (dC, dI) vwCl ((ql_mw h ad cI cZ cJ) z) H → va_D A ((ql_mw h ad cI cZ cJ) z) → va_S A s.heap H locs → lv_has ls 5 [(0, .ref h), (1, .int x1), (2, .int x2), (3, .int x3), (4, .int x4)] → W p l e rm_X11_behind s m args below meth c H locs 0 0 (ql_Qi below (dC, dI) (ql_mw h ad cI cZ cJ) A args s res) (F0 m 26 ls []) := by
  have C0q := C0
  obtain ⟨hx, hb, hr, hml, hown, hts, hlocks, hK, hA⟩ := C0q
  intro n
  induction n with
  | zero =>
    intro z x1 x2 x3 x4 hf
    rw [f_X11_behind_26] at hf
    cases hf
  | succ n ih =>
    intro z x1 x2 x3 x4 hf H locs ls hP hD hS hl
    rw [f_X11_behind_26] at hf
    refine lv_iload hx hb dX11_behind_26 (lv_at hl 4 rfl) ?_
    refine lv_iconst (v := 4) hx hb dX11_behind_28 (by decide) ?_
    refine lv_icmp_ge (tgt := 63) hx hb dX11_behind_29 (by decide) (fun c1 => ?_) (fun c1 => ?_)
    · have hf := (if_pos c1).symm.trans hf
      refine lv_iload_n hx hb dX11_behind_63 rfl (lv_at hl 3 rfl) ?_
      exact ql_iret C0 hf hP hD hS dX11_behind_64
    · have hf := (if_neg c1).symm.trans hf
      refine lv_iload_n hx hb dX11_behind_32 rfl (lv_at hl 3 rfl) ?_
      refine lv_iload_n hx hb dX11_behind_33 rfl (lv_at hl 2 rfl) ?_
      refine lv_iload hx hb dX11_behind_34 (lv_at hl 4 rfl) ?_
      refine lv_ishr hx hb dX11_behind_36 ?_
      refine lv_iconst (v := 1) hx hb dX11_behind_37 (by decide) ?_
      refine lv_iand hx hb dX11_behind_38 ?_
      refine lv_iconst (v := 1) hx hb dX11_behind_39 (by decide) ?_
      refine lv_icmp_ne (tgt := 54) hx hb dX11_behind_40 (by decide) (fun c2 => ?_) (fun c2 => ?_)
      · have hf := (if_neg c2).symm.trans hf
        refine lv_iconst (v := 0) hx hb dX11_behind_54 (by decide) ?_
        exact w_X11_behind_55 C0 N (f_X11_behind_26 N n) ih _ _ _ _ _ _ hf _ _ _ hP hD hS (lv_sub hl [0, 1, 2, 4] rfl)
      · have hf := (if_pos c2).symm.trans hf
        refine lv_aload_n hx hb dX11_behind_43 rfl (lv_at hl 0 rfl) ?_
        refine lv_iload_n hx hb dX11_behind_44 rfl (lv_at hl 1 rfl) ?_
        refine lv_iconst (v := 0) hx hb dX11_behind_45 (by decide) ?_
        refine lv_iload hx hb dX11_behind_46 (lv_at hl 4 rfl) ?_
        obtain ⟨u3, hu3, hf⟩ := ql_bd hf
        refine ql_callRVi (As := [.int x1, .int 0, .int x4]) (rest := [.int x3]) C0 (c_X11_lastOf l dC dI h ad cI cZ cJ N z x1 0 x4 u3 hu3) (cwV 3 hts gX11_behind_X11_lastOf rfl rfl rfl qv_X11_lastOf ⟨Nat.le_of_ble_eq_true rfl, Nat.le_of_ble_eq_true rfl⟩) (va_recv hK.1 hP (ci := 11) (q0 := 0) rfl rfl) hK hP hS hl.1 rfl rfl (Nat.le_of_ble_eq_true rfl) dX11_behind_48 (fun H1 locs hk hS => ?_)
        have hP := ql_keep hP hk
        refine lv_goto (tgt := 55) hx hb dX11_behind_51 (by decide) ?_
        exact w_X11_behind_55 C0 N (f_X11_behind_26 N n) ih _ _ _ _ _ _ hf _ _ _ hP hD hS (lv_sub hl [0, 1, 2, 4] rfl)
set_option maxHeartbeats 4000000 in
set_option maxRecDepth 100000 in
theorem w_X11_behind_0 {p : Program} {l : Launch} {e : Env} {s : State} {m : MethodId} {args : Array Value} {below : List Frame} {meth : Method} {c : Code} {dC : Nat → ClassId} {dI : Nat → Nat → Nat} {A : Nat → Prop} {h : Nat} {ad : Nat → Nat} {cI cZ cJ : ClassId} {res : Int32 × ql_Z} (C0 : ql_C p s m args meth c cX11_behind 5 (some .int) wsX11_behind RX11 (dC, dI) [(cI, .int), (cZ, .boolean), (cJ, .long)] A) (N : Nat) : ∀ (z : ql_Z) (x1 : Int32) (x2 : Int32), f_X11_behind_0 N z x1 x2 = some res → ∀ (H : Heap) (locs : List Loc) (ls : Array Slot), va_P (dC, dI) vwCl ((ql_mw h ad cI cZ cJ) z) H → va_D A ((ql_mw h ad cI cZ cJ) z) → va_S A s.heap H locs → lv_has ls 5 [(0, .ref h), (1, .int x1), (2, .int x2)] → W p l e rm_X11_behind s m args below meth c H locs 0 0 (ql_Qi below (dC, dI) (ql_mw h ad cI cZ cJ) A args s res) (F0 m 0 ls []) := by
  have C0q := C0
  obtain ⟨hx, hb, hr, hml, hown, hts, hlocks, hK, hA⟩ := C0q
  intro z x1 x2 hf H locs ls hP hD hS hl
  unfold f_X11_behind_0 at hf
  refine lv_iload_n hx hb dX11_behind_0 rfl (lv_at hl 1 rfl) ?_
  obtain ⟨u4, hu4, hf⟩ := ql_bd hf
  refine ql_callRSi (As := [.int x1]) (rest := []) C0 (c_X11_isProgram l dC dI N x1 u4 hu4) (va_cwS 1 hts gX11_behind_X11_isProgram rfl rfl rfl qd_X11_isProgram ⟨Nat.le_of_ble_eq_true rfl, Nat.le_of_ble_eq_true rfl⟩) (hK.sub [] rfl) ql_nil hS hl.1 rfl rfl (Nat.le_of_ble_eq_true rfl) dX11_behind_1 (fun H1 locs hk hS => ?_)
  have hP := ql_keep hP hk
  refine lv_if_eq (tgt := 14) hx hb dX11_behind_4 (by decide) (fun c5 => ?_) (fun c5 => ?_)
  · have hf := (if_pos c5).symm.trans hf
    refine lv_iconst (v := (-1)) hx hb dX11_behind_14 (by decide) ?_
    exact ql_iret C0 hf hP hD hS dX11_behind_15
  · have hf := (if_neg c5).symm.trans hf
    refine lv_iload_n hx hb dX11_behind_7 rfl (lv_at hl 2 rfl) ?_
    obtain ⟨u6, hu6, hf⟩ := ql_bd hf
    refine ql_callRSi (As := [.int x2]) (rest := []) C0 (c_X11_isSet l dC dI N x2 u6 hu6) (va_cwS 1 hts gX11_behind_X11_isSet rfl rfl rfl qd_X11_isSet ⟨Nat.le_of_ble_eq_true rfl, Nat.le_of_ble_eq_true rfl⟩) (hK.sub [] rfl) ql_nil hS hl.1 rfl rfl (Nat.le_of_ble_eq_true rfl) dX11_behind_8 (fun H1 locs hk hS => ?_)
    have hP := ql_keep hP hk
    refine lv_if_ne (tgt := 16) hx hb dX11_behind_11 (by decide) (fun c7 => ?_) (fun c7 => ?_)
    · have hf := (if_neg c7).symm.trans hf
      refine lv_aload_n hx hb dX11_behind_16 rfl (lv_at hl 0 rfl) ?_
      refine lv_iload_n hx hb dX11_behind_17 rfl (lv_at hl 1 rfl) ?_
      obtain ⟨u8, hu8, hf⟩ := ql_bd hf
      refine ql_callVv (As := [.int x1]) (rest := []) C0 (c_X11_ends l dC dI h ad cI cZ cJ N z x1 u8 hu8) (cwV 1 hts gX11_behind_X11_ends rfl rfl rfl qv_X11_ends ⟨Nat.le_of_ble_eq_true rfl, Nat.le_of_ble_eq_true rfl⟩) (va_recv hK.1 hP (ci := 11) (q0 := 0) rfl rfl) hP hD hS hl.1 rfl rfl (Nat.le_of_ble_eq_true rfl) dX11_behind_18 (fun H locs hP hD hS => ?_)
      refine lv_iconst (v := 0) hx hb dX11_behind_21 (by decide) ?_
      refine lv_istore_n (lv' := [(3, .int 0), (0, .ref h), (1, .int x1), (2, .int x2)]) hx hb dX11_behind_22 rfl hl (by decide) rfl (fun ls hl => ?_)
      refine lv_iconst (v := 0) hx hb dX11_behind_23 (by decide) ?_
      refine lv_istore (lv' := [(4, .int 0), (3, .int 0), (0, .ref h), (1, .int x1), (2, .int x2)]) hx hb dX11_behind_24 hl (by decide) rfl (fun ls hl => ?_)
      exact w_X11_behind_26 C0 N N _ _ _ _ _ hf _ _ _ hP hD hS (lv_sub hl [2, 3, 4, 1, 0] rfl)
    · have hf := (if_pos c7).symm.trans hf
      refine lv_iconst (v := (-1)) hx hb dX11_behind_14 (by decide) ?_
      exact ql_iret C0 hf hP hD hS dX11_behind_15
set_option maxRecDepth 100000 in
theorem c_X11_behind (l : Launch) (dC : Nat → ClassId) (dI : Nat → Nat → Nat) (h : Nat) (ad : Nat → Nat) (cI cZ cJ : ClassId) (N : Nat) (z : ql_Z) (x1 : Int32) (x2 : Int32) (res : Int32 × ql_Z) (hf : f_X11_behind N z x1 x2 = some res) : ql_Mi l yX11_behind wsX11_behind rm_X11_behind (dC, dI) [(cI, .int), (cZ, .boolean), (cJ, .long)] (ql_mw h ad cI cZ cJ) [.ref h, .int x1, .int x2] z res :=
  ql_start_i (by decide) rfl (Nat.le_of_ble_eq_true rfl) (fun p e s m below meth c A ls C0 hl hP hD hS => w_X11_behind_0 C0 N z x1 x2 hf s.heap [] ls hP hD hS (lv_sub (show lv_has ls 5 [(0, .ref h), (1, .int x1), (2, .int x2)] from hl) [0, 1, 2] rfl))
/-! ===== TestedLoopsModel.many(II)J ===== -/
abbrev rm_X11_many : Room := { frames := 2, cells := 0, slots := 0, locals := 45 }
theorem iw_X11_many_X11 : ∀ w ∈ wsX110, w ∈ wsX11_many := fun w h => List.mem_cons_of_mem _ (List.mem_append_right _ h)
theorem qv_X11_many : yX11_many.cls = RX11 ∧ yX11_many.cls ≠ "java/lang/invoke/MethodHandle" ∧ yX11_many.cls ≠ "java/lang/invoke/VarHandle" ∧ (parseMethodDescriptor yX11_many.desc).map (fun d => d.parameters.length) = some 2 := by decide +kernel
def f_X11_many_19 (N : Nat) (z : ql_Z) : Option (Int64 × ql_Z) := some ((-1), z)
def f_X11_many_143 (N : Nat) (k25 : ql_Z → Int32 → Int32 → Int32 → Option (Int64 × ql_Z)) (k63 : ql_Z → Int32 → Int32 → Int32 → Int32 → Option (Int64 × ql_Z)) (k85 : ql_Z → Int32 → Int32 → Int32 → Int32 → Int32 → Option (Int64 × ql_Z)) (z : ql_Z) (x1 : Int32) (x2 : Int32) (x3 : Int32) (x4 : Int32) (x5 : Int32) (y0 : Int64) (y1 : Int64) (y2 : Int32) : Option (Int64 × ql_Z) := if ql_ib y2 17 = true then k85 (z.1, (ql_uq z.2 37 (vp_updL (z.2 37) y2.toNatClampNeg (y1 + y0)))) x1 x2 x3 x4 (x5 + 1) else none
def f_X11_many_142 (N : Nat) (k25 : ql_Z → Int32 → Int32 → Int32 → Option (Int64 × ql_Z)) (k63 : ql_Z → Int32 → Int32 → Int32 → Int32 → Option (Int64 × ql_Z)) (k85 : ql_Z → Int32 → Int32 → Int32 → Int32 → Int32 → Option (Int64 × ql_Z)) (z : ql_Z) (x1 : Int32) (x2 : Int32) (x3 : Int32) (x4 : Int32) (x5 : Int32) (y0 : Int64) (y1 : Int32) : Option (Int64 × ql_Z) := f_X11_many_143 N k25 k63 k85 z x1 x2 x3 x4 x5 0 y0 y1
def f_X11_many_123 (N : Nat) (k25 : ql_Z → Int32 → Int32 → Int32 → Option (Int64 × ql_Z)) (k63 : ql_Z → Int32 → Int32 → Int32 → Int32 → Option (Int64 × ql_Z)) (k85 : ql_Z → Int32 → Int32 → Int32 → Int32 → Int32 → Option (Int64 × ql_Z)) (z : ql_Z) (x1 : Int32) (x2 : Int32) (x3 : Int32) (x4 : Int32) (x5 : Int32) (x6 : Int32) (y0 : Int64) (y1 : Int32) : Option (Int64 × ql_Z) := if x6 ≤ 0 then f_X11_many_142 N k25 k63 k85 z x1 x2 x3 x4 x5 y0 y1 else if x3 ≤ 0 then f_X11_many_142 N k25 k63 k85 z x1 x2 x3 x4 x5 y0 y1 else if ql_ib x6 17 = true then f_X11_many_143 N k25 k63 k85 z x1 x2 x3 x4 x5 ((z.2 38) x6.toNatClampNeg) y0 y1 else none
def f_X11_many_85 (N : Nat) (k25 : ql_Z → Int32 → Int32 → Int32 → Option (Int64 × ql_Z)) (k63 : ql_Z → Int32 → Int32 → Int32 → Int32 → Option (Int64 × ql_Z)) : Nat → ql_Z → Int32 → Int32 → Int32 → Int32 → Int32 → Option (Int64 × ql_Z)
  | 0, _, _, _, _, _, _ => none
  | n + 1, z, x1, x2, x3, x4, x5 => if 4 ≤ x5 then k63 z x1 x2 x3 (x4 + 1) else (f_X11_to N z x1 x4 x5).bind fun u4 => if ql_ib x4 17 = true then if u4 = 0 then if x3 = 0 then f_X11_many_143 N k25 k63 (f_X11_many_85 N k25 k63 n) z x1 x2 x3 x4 x5 1 ((z.2 37) x4.toNatClampNeg) x4 else f_X11_many_123 N k25 k63 (f_X11_many_85 N k25 k63 n) z x1 x2 x3 x4 x5 u4 ((z.2 37) x4.toNatClampNeg) x4 else f_X11_many_123 N k25 k63 (f_X11_many_85 N k25 k63 n) z x1 x2 x3 x4 x5 u4 ((z.2 37) x4.toNatClampNeg) x4 else none
def f_X11_many_63 (N : Nat) (k25 : ql_Z → Int32 → Int32 → Int32 → Option (Int64 × ql_Z)) : Nat → ql_Z → Int32 → Int32 → Int32 → Int32 → Option (Int64 × ql_Z)
  | 0, _, _, _, _, _ => none
  | n + 1, z, x1, x2, x3, x4 => if ql_ib x1 5 = true then if ((z.1 9) x1.toNatClampNeg) < x4 then k25 z x1 x2 (x3 + 1) else if ql_ib x4 17 = true then f_X11_many_85 N k25 (f_X11_many_63 N k25 n) N (z.1, (ql_uq z.2 37 (vp_updL (z.2 37) x4.toNatClampNeg 0))) x1 x2 x3 x4 0 else none else none
def f_X11_many_33 (N : Nat) (k25 : ql_Z → Int32 → Int32 → Int32 → Option (Int64 × ql_Z)) : Nat → ql_Z → Int32 → Int32 → Int32 → Int32 → Option (Int64 × ql_Z)
  | 0, _, _, _, _, _ => none
  | n + 1, z, x1, x2, x3, x4 => if 17 ≤ x4 then f_X11_many_63 N k25 N z x1 x2 x3 0 else if ql_ib x4 17 = true then if ql_ib x4 17 = true then f_X11_many_33 N k25 n (z.1, (ql_uq z.2 38 (vp_updL (z.2 38) x4.toNatClampNeg ((z.2 37) x4.toNatClampNeg)))) x1 x2 x3 (x4 + 1) else none else none
def f_X11_many_25 (N : Nat) : Nat → ql_Z → Int32 → Int32 → Int32 → Option (Int64 × ql_Z)
  | 0, _, _, _, _ => none
  | n + 1, z, x1, x2, x3 => if x2 < x3 then some (((z.2 37) 0), z) else f_X11_many_33 N (f_X11_many_25 N n) N z x1 x2 x3 0
def f_X11_many_0 (N : Nat) (z : ql_Z) (x1 : Int32) (x2 : Int32) : Option (Int64 × ql_Z) := (f_X11_isProgram N x1).bind fun u10 => if u10 = 0 then f_X11_many_19 N z else (f_X11_in N x2.toInt64 0 14).bind fun u12 => if u12 = 0 then f_X11_many_19 N z else f_X11_many_25 N N z x1 x2 0
def f_X11_many (N : Nat) (z : ql_Z) (x1 : Int32) (x2 : Int32) : Option (Int64 × ql_Z) := f_X11_many_0 N z x1 x2
set_option maxHeartbeats 4000000 in
set_option maxRecDepth 100000 in
theorem w_X11_many_19 {p : Program} {l : Launch} {e : Env} {s : State} {m : MethodId} {args : Array Value} {below : List Frame} {meth : Method} {c : Code} {dC : Nat → ClassId} {dI : Nat → Nat → Nat} {A : Nat → Prop} {h : Nat} {ad : Nat → Nat} {cI cZ cJ : ClassId} {res : Int64 × ql_Z} (C0 : ql_C p s m args meth c cX11_many 7 (some .long) wsX11_many RX11 (dC, dI) [(cI, .int), (cZ, .boolean), (cJ, .long)] A) (N : Nat) : ∀ (z : ql_Z), f_X11_many_19 N z = some res → ∀ (H : Heap) (locs : List Loc) (ls : Array Slot), va_P (dC, dI) vwCl ((ql_mw h ad cI cZ cJ) z) H → va_D A ((ql_mw h ad cI cZ cJ) z) → va_S A s.heap H locs → lv_has ls 7 [(0, .ref h)] → W p l e rm_X11_many s m args below meth c H locs 0 0 (ql_Ql below (dC, dI) (ql_mw h ad cI cZ cJ) A args s res) (F0 m 19 ls []) := by
  have C0q := C0
  obtain ⟨hx, hb, hr, hml, hown, hts, hlocks, hK, hA⟩ := C0q
  have fl261 := hts (Cond.constantLong RX11 261 (-1)) (by decide +kernel)
  intro z hf H locs ls hP hD hS hl
  unfold f_X11_many_19 at hf
  refine lv_ldc2 hx hb hown fl261 dX11_many_19 ?_
  exact ql_lret C0 hf hP hD hS dX11_many_22
set_option maxHeartbeats 4000000 in
set_option maxRecDepth 100000 in
theorem w_X11_many_143 {p : Program} {l : Launch} {e : Env} {s : State} {m : MethodId} {args : Array Value} {below : List Frame} {meth : Method} {c : Code} {dC : Nat → ClassId} {dI : Nat → Nat → Nat} {A : Nat → Prop} {h : Nat} {ad : Nat → Nat} {cI cZ cJ : ClassId} {res : Int64 × ql_Z} (C0 : ql_C p s m args meth c cX11_many 7 (some .long) wsX11_many RX11 (dC, dI) [(cI, .int), (cZ, .boolean), (cJ, .long)] A) (N : Nat) (k25 : ql_Z → Int32 → Int32 → Int32 → Option (Int64 × ql_Z)) (hk25 : ∀ (z : ql_Z) (x1 : Int32) (x2 : Int32) (x3 : Int32), k25 z x1 x2 x3 = some res → ∀ (H : Heap) (locs : List Loc) (ls : Array Slot), va_P (dC, dI) vwCl ((ql_mw h ad cI cZ cJ) z) H → va_D A ((ql_mw h ad cI cZ cJ) z) → va_S A s.heap H locs → lv_has ls 7 [(0, .ref h), (1, .int x1), (2, .int x2), (3, .int x3)] → W p l e rm_X11_many s m args below meth c H locs 0 0 (ql_Ql below (dC, dI) (ql_mw h ad cI cZ cJ) A args s res) (F0 m 25 ls [])) (k63 : ql_Z → Int32 → Int32 → Int32 → Int32 → Option (Int64 × ql_Z)) (hk63 : ∀ (z : ql_Z) (x1 : Int32) (x2 : Int32) (x3 : Int32) (x4 : Int32), k63 z x1 x2 x3 x4 = some res → ∀ (H : Heap) (locs : List Loc) (ls : Array Slot), va_P (dC, dI) vwCl ((ql_mw h ad cI cZ cJ) z) H → va_D A ((ql_mw h ad cI cZ cJ) z) → va_S A s.heap H locs → lv_has ls 7 [(0, .ref h), (1, .int x1), (2, .int x2), (3, .int x3), (4, .int x4)] → W p l e rm_X11_many s m args below meth c H locs 0 0 (ql_Ql below (dC, dI) (ql_mw h ad cI cZ cJ) A args s res) (F0 m 63 ls [])) (k85 : ql_Z → Int32 → Int32 → Int32 → Int32 → Int32 → Option (Int64 × ql_Z)) (hk85 : ∀ (z : ql_Z) (x1 : Int32) (x2 : Int32) (x3 : Int32) (x4 : Int32) (x5 : Int32), k85 z x1 x2 x3 x4 x5 = some res → ∀ (H : Heap) (locs : List Loc) (ls : Array Slot), va_P (dC, dI) vwCl ((ql_mw h ad cI cZ cJ) z) H → va_D A ((ql_mw h ad cI cZ cJ) z) → va_S A s.heap H locs → lv_has ls 7 [(0, .ref h), (1, .int x1), (2, .int x2), (3, .int x3), (4, .int x4), (5, .int x5)] → W p l e rm_X11_many s m args below meth c H locs 0 0 (ql_Ql below (dC, dI) (ql_mw h ad cI cZ cJ) A args s res) (F0 m 85 ls [])) : ∀ (z : ql_Z) (x1 : Int32) (x2 : Int32) (x3 : Int32) (x4 : Int32) (x5 : Int32) (y0 : Int64) (y1 : Int64) (y2 : Int32), f_X11_many_143 N k25 k63 k85 z x1 x2 x3 x4 x5 y0 y1 y2 = some res → ∀ (H : Heap) (locs : List Loc) (ls : Array Slot), va_P (dC, dI) vwCl ((ql_mw h ad cI cZ cJ) z) H → va_D A ((ql_mw h ad cI cZ cJ) z) → va_S A s.heap H locs → lv_has ls 7 [(0, .ref h), (1, .int x1), (2, .int x2), (3, .int x3), (4, .int x4), (5, .int x5)] → W p l e rm_X11_many s m args below meth c H locs 0 0 (ql_Ql below (dC, dI) (ql_mw h ad cI cZ cJ) A args s res) (F0 m 143 ls [.long y0, .long y1, .int y2, .ref (ad 37)]) := by
  have C0q := C0
  obtain ⟨hx, hb, hr, hml, hown, hts, hlocks, hK, hA⟩ := C0q
  intro z x1 x2 x3 x4 x5 y0 y1 y2 hf H locs ls hP hD hS hl
  unfold f_X11_many_143 at hf
  refine lv_ladd hx hb dX11_many_143 ?_
  have g0 := ql_in (ql_gt hf)
  have hf := ql_gx hf
  refine va_last (f := (z.2 37)) hx hb hK.1 hP hD hS 26 2 rfl rfl g0 dX11_many_144 (fun H locs hP hD hS => ?_)
  refine lv_iinc (v := (x5 + 1)) (lv' := [(5, .int (x5 + 1)), (0, .ref h), (1, .int x1), (2, .int x2), (3, .int x3), (4, .int x4)]) hx hb dX11_many_145 hl (k := 5) rfl rfl (by decide) rfl (fun ls hl => ?_)
  refine lv_goto (tgt := 85) hx hb dX11_many_148 (by decide) ?_
  exact hk85 _ _ _ _ _ _ hf _ _ _ hP hD hS (lv_sub hl [1, 2, 3, 4, 5, 0] rfl)
set_option maxHeartbeats 4000000 in
set_option maxRecDepth 100000 in
theorem w_X11_many_142 {p : Program} {l : Launch} {e : Env} {s : State} {m : MethodId} {args : Array Value} {below : List Frame} {meth : Method} {c : Code} {dC : Nat → ClassId} {dI : Nat → Nat → Nat} {A : Nat → Prop} {h : Nat} {ad : Nat → Nat} {cI cZ cJ : ClassId} {res : Int64 × ql_Z} (C0 : ql_C p s m args meth c cX11_many 7 (some .long) wsX11_many RX11 (dC, dI) [(cI, .int), (cZ, .boolean), (cJ, .long)] A) (N : Nat) (k25 : ql_Z → Int32 → Int32 → Int32 → Option (Int64 × ql_Z)) (hk25 : ∀ (z : ql_Z) (x1 : Int32) (x2 : Int32) (x3 : Int32), k25 z x1 x2 x3 = some res → ∀ (H : Heap) (locs : List Loc) (ls : Array Slot), va_P (dC, dI) vwCl ((ql_mw h ad cI cZ cJ) z) H → va_D A ((ql_mw h ad cI cZ cJ) z) → va_S A s.heap H locs → lv_has ls 7 [(0, .ref h), (1, .int x1), (2, .int x2), (3, .int x3)] → W p l e rm_X11_many s m args below meth c H locs 0 0 (ql_Ql below (dC, dI) (ql_mw h ad cI cZ cJ) A args s res) (F0 m 25 ls [])) (k63 : ql_Z → Int32 → Int32 → Int32 → Int32 → Option (Int64 × ql_Z)) (hk63 : ∀ (z : ql_Z) (x1 : Int32) (x2 : Int32) (x3 : Int32) (x4 : Int32), k63 z x1 x2 x3 x4 = some res → ∀ (H : Heap) (locs : List Loc) (ls : Array Slot), va_P (dC, dI) vwCl ((ql_mw h ad cI cZ cJ) z) H → va_D A ((ql_mw h ad cI cZ cJ) z) → va_S A s.heap H locs → lv_has ls 7 [(0, .ref h), (1, .int x1), (2, .int x2), (3, .int x3), (4, .int x4)] → W p l e rm_X11_many s m args below meth c H locs 0 0 (ql_Ql below (dC, dI) (ql_mw h ad cI cZ cJ) A args s res) (F0 m 63 ls [])) (k85 : ql_Z → Int32 → Int32 → Int32 → Int32 → Int32 → Option (Int64 × ql_Z)) (hk85 : ∀ (z : ql_Z) (x1 : Int32) (x2 : Int32) (x3 : Int32) (x4 : Int32) (x5 : Int32), k85 z x1 x2 x3 x4 x5 = some res → ∀ (H : Heap) (locs : List Loc) (ls : Array Slot), va_P (dC, dI) vwCl ((ql_mw h ad cI cZ cJ) z) H → va_D A ((ql_mw h ad cI cZ cJ) z) → va_S A s.heap H locs → lv_has ls 7 [(0, .ref h), (1, .int x1), (2, .int x2), (3, .int x3), (4, .int x4), (5, .int x5)] → W p l e rm_X11_many s m args below meth c H locs 0 0 (ql_Ql below (dC, dI) (ql_mw h ad cI cZ cJ) A args s res) (F0 m 85 ls [])) : ∀ (z : ql_Z) (x1 : Int32) (x2 : Int32) (x3 : Int32) (x4 : Int32) (x5 : Int32) (y0 : Int64) (y1 : Int32), f_X11_many_142 N k25 k63 k85 z x1 x2 x3 x4 x5 y0 y1 = some res → ∀ (H : Heap) (locs : List Loc) (ls : Array Slot), va_P (dC, dI) vwCl ((ql_mw h ad cI cZ cJ) z) H → va_D A ((ql_mw h ad cI cZ cJ) z) → va_S A s.heap H locs → lv_has ls 7 [(0, .ref h), (1, .int x1), (2, .int x2), (3, .int x3), (4, .int x4), (5, .int x5)] → W p l e rm_X11_many s m args below meth c H locs 0 0 (ql_Ql below (dC, dI) (ql_mw h ad cI cZ cJ) A args s res) (F0 m 142 ls [.long y0, .int y1, .ref (ad 37)]) := by
  have C0q := C0
  obtain ⟨hx, hb, hr, hml, hown, hts, hlocks, hK, hA⟩ := C0q
  intro z x1 x2 x3 x4 x5 y0 y1 hf H locs ls hP hD hS hl
  unfold f_X11_many_142 at hf
  refine lv_lconst (v := 0) hx hb dX11_many_142 (by decide) ?_
  exact w_X11_many_143 C0 N k25 hk25 k63 hk63 k85 hk85 _ _ _ _ _ _ _ _ _ hf _ _ _ hP hD hS (lv_sub hl [0, 1, 2, 3, 4, 5] rfl)
set_option maxHeartbeats 4000000 in
set_option maxRecDepth 100000 in
theorem w_X11_many_123 {p : Program} {l : Launch} {e : Env} {s : State} {m : MethodId} {args : Array Value} {below : List Frame} {meth : Method} {c : Code} {dC : Nat → ClassId} {dI : Nat → Nat → Nat} {A : Nat → Prop} {h : Nat} {ad : Nat → Nat} {cI cZ cJ : ClassId} {res : Int64 × ql_Z} (C0 : ql_C p s m args meth c cX11_many 7 (some .long) wsX11_many RX11 (dC, dI) [(cI, .int), (cZ, .boolean), (cJ, .long)] A) (N : Nat) (k25 : ql_Z → Int32 → Int32 → Int32 → Option (Int64 × ql_Z)) (hk25 : ∀ (z : ql_Z) (x1 : Int32) (x2 : Int32) (x3 : Int32), k25 z x1 x2 x3 = some res → ∀ (H : Heap) (locs : List Loc) (ls : Array Slot), va_P (dC, dI) vwCl ((ql_mw h ad cI cZ cJ) z) H → va_D A ((ql_mw h ad cI cZ cJ) z) → va_S A s.heap H locs → lv_has ls 7 [(0, .ref h), (1, .int x1), (2, .int x2), (3, .int x3)] → W p l e rm_X11_many s m args below meth c H locs 0 0 (ql_Ql below (dC, dI) (ql_mw h ad cI cZ cJ) A args s res) (F0 m 25 ls [])) (k63 : ql_Z → Int32 → Int32 → Int32 → Int32 → Option (Int64 × ql_Z)) (hk63 : ∀ (z : ql_Z) (x1 : Int32) (x2 : Int32) (x3 : Int32) (x4 : Int32), k63 z x1 x2 x3 x4 = some res → ∀ (H : Heap) (locs : List Loc) (ls : Array Slot), va_P (dC, dI) vwCl ((ql_mw h ad cI cZ cJ) z) H → va_D A ((ql_mw h ad cI cZ cJ) z) → va_S A s.heap H locs → lv_has ls 7 [(0, .ref h), (1, .int x1), (2, .int x2), (3, .int x3), (4, .int x4)] → W p l e rm_X11_many s m args below meth c H locs 0 0 (ql_Ql below (dC, dI) (ql_mw h ad cI cZ cJ) A args s res) (F0 m 63 ls [])) (k85 : ql_Z → Int32 → Int32 → Int32 → Int32 → Int32 → Option (Int64 × ql_Z)) (hk85 : ∀ (z : ql_Z) (x1 : Int32) (x2 : Int32) (x3 : Int32) (x4 : Int32) (x5 : Int32), k85 z x1 x2 x3 x4 x5 = some res → ∀ (H : Heap) (locs : List Loc) (ls : Array Slot), va_P (dC, dI) vwCl ((ql_mw h ad cI cZ cJ) z) H → va_D A ((ql_mw h ad cI cZ cJ) z) → va_S A s.heap H locs → lv_has ls 7 [(0, .ref h), (1, .int x1), (2, .int x2), (3, .int x3), (4, .int x4), (5, .int x5)] → W p l e rm_X11_many s m args below meth c H locs 0 0 (ql_Ql below (dC, dI) (ql_mw h ad cI cZ cJ) A args s res) (F0 m 85 ls [])) : ∀ (z : ql_Z) (x1 : Int32) (x2 : Int32) (x3 : Int32) (x4 : Int32) (x5 : Int32) (x6 : Int32) (y0 : Int64) (y1 : Int32), f_X11_many_123 N k25 k63 k85 z x1 x2 x3 x4 x5 x6 y0 y1 = some res → ∀ (H : Heap) (locs : List Loc) (ls : Array Slot), va_P (dC, dI) vwCl ((ql_mw h ad cI cZ cJ) z) H → va_D A ((ql_mw h ad cI cZ cJ) z) → va_S A s.heap H locs → lv_has ls 7 [(0, .ref h), (1, .int x1), (2, .int x2), (3, .int x3), (4, .int x4), (5, .int x5), (6, .int x6)] → W p l e rm_X11_many s m args below meth c H locs 0 0 (ql_Ql below (dC, dI) (ql_mw h ad cI cZ cJ) A args s res) (F0 m 123 ls [.long y0, .int y1, .ref (ad 37)]) := by
  have C0q := C0
  obtain ⟨hx, hb, hr, hml, hown, hts, hlocks, hK, hA⟩ := C0q
  have fl90 := hts (Cond.fieldLink RX11 90 "TestedLoopsModel" "before" "[J") (by decide +kernel)
  intro z x1 x2 x3 x4 x5 x6 y0 y1 hf H locs ls hP hD hS hl
  unfold f_X11_many_123 at hf
  refine lv_iload hx hb dX11_many_123 (lv_at hl 6 rfl) ?_
  refine lv_if_le (tgt := 142) hx hb dX11_many_125 (by decide) (fun c1 => ?_) (fun c1 => ?_)
  · have hf := (if_pos c1).symm.trans hf
    exact w_X11_many_142 C0 N k25 hk25 k63 hk63 k85 hk85 _ _ _ _ _ _ _ _ hf _ _ _ hP hD hS (lv_sub hl [0, 1, 2, 3, 4, 5] rfl)
  · have hf := (if_neg c1).symm.trans hf
    refine lv_iload_n hx hb dX11_many_128 rfl (lv_at hl 3 rfl) ?_
    refine lv_if_le (tgt := 142) hx hb dX11_many_129 (by decide) (fun c2 => ?_) (fun c2 => ?_)
    · have hf := (if_pos c2).symm.trans hf
      exact w_X11_many_142 C0 N k25 hk25 k63 hk63 k85 hk85 _ _ _ _ _ _ _ _ hf _ _ _ hP hD hS (lv_sub hl [0, 1, 2, 3, 4, 5] rfl)
    · have hf := (if_neg c2).symm.trans hf
      refine lv_aload_n hx hb dX11_many_132 rfl (lv_at hl 0 rfl) ?_
      refine va_get (D := (dC, dI)) (ci := 11) (v := .ref (ad 38)) (C := RX11) (T := TX11) (N := 41) hx hb hts iw_X11_many_X11 hown hK.1 hP 0 rfl rfl 38 (by decide) fl90 (fun _ h9 => h9) rfl dX11_many_133 ?_
      refine lv_iload hx hb dX11_many_136 (lv_at hl 6 rfl) ?_
      have g0 := ql_in (ql_gt hf)
      have hf := ql_gx hf
      refine va_lald (f := (z.2 38)) hx hb hK.1 hP 27 2 rfl rfl g0 dX11_many_138 ?_
      refine lv_goto (tgt := 143) hx hb dX11_many_139 (by decide) ?_
      exact w_X11_many_143 C0 N k25 hk25 k63 hk63 k85 hk85 _ _ _ _ _ _ _ _ _ hf _ _ _ hP hD hS (lv_sub hl [0, 1, 2, 3, 4, 5] rfl)
set_option maxHeartbeats 4000000 in
set_option maxRecDepth 100000 in
theorem w_X11_many_85 {p : Program} {l : Launch} {e : Env} {s : State} {m : MethodId} {args : Array Value} {below : List Frame} {meth : Method} {c : Code} {dC : Nat → ClassId} {dI : Nat → Nat → Nat} {A : Nat → Prop} {h : Nat} {ad : Nat → Nat} {cI cZ cJ : ClassId} {res : Int64 × ql_Z} (C0 : ql_C p s m args meth c cX11_many 7 (some .long) wsX11_many RX11 (dC, dI) [(cI, .int), (cZ, .boolean), (cJ, .long)] A) (N : Nat) (k25 : ql_Z → Int32 → Int32 → Int32 → Option (Int64 × ql_Z)) (hk25 : ∀ (z : ql_Z) (x1 : Int32) (x2 : Int32) (x3 : Int32), k25 z x1 x2 x3 = some res → ∀ (H : Heap) (locs : List Loc) (ls : Array Slot), va_P (dC, dI) vwCl ((ql_mw h ad cI cZ cJ) z) H → va_D A ((ql_mw h ad cI cZ cJ) z) → va_S A s.heap H locs → lv_has ls 7 [(0, .ref h), (1, .int x1), (2, .int x2), (3, .int x3)] → W p l e rm_X11_many s m args below meth c H locs 0 0 (ql_Ql below (dC, dI) (ql_mw h ad cI cZ cJ) A args s res) (F0 m 25 ls [])) (k63 : ql_Z → Int32 → Int32 → Int32 → Int32 → Option (Int64 × ql_Z)) (hk63 : ∀ (z : ql_Z) (x1 : Int32) (x2 : Int32) (x3 : Int32) (x4 : Int32), k63 z x1 x2 x3 x4 = some res → ∀ (H : Heap) (locs : List Loc) (ls : Array Slot), va_P (dC, dI) vwCl ((ql_mw h ad cI cZ cJ) z) H → va_D A ((ql_mw h ad cI cZ cJ) z) → va_S A s.heap H locs → lv_has ls 7 [(0, .ref h), (1, .int x1), (2, .int x2), (3, .int x3), (4, .int x4)] → W p l e rm_X11_many s m args below meth c H locs 0 0 (ql_Ql below (dC, dI) (ql_mw h ad cI cZ cJ) A args s res) (F0 m 63 ls [])) : ∀ (n : Nat), ∀ (z : ql_Z) (x1 : Int32) (x2 : Int32) (x3 : Int32) (x4 : Int32) (x5 : Int32), f_X11_many_85 N k25 k63 n z x1 x2 x3 x4 x5 = some res → ∀ (H : Heap) (locs : List Loc) (ls : Array Slot), va_P (dC, dI) vwCl ((ql_mw h ad cI cZ cJ) z) H → va_D A ((ql_mw h ad cI cZ cJ) z) → va_S A s.heap H locs → lv_has ls 7 [(0, .ref h), (1, .int x1), (2, .int x2), (3, .int x3), (4, .int x4), (5, .int x5)] → W p l e rm_X11_many s m args below meth c H locs 0 0 (ql_Ql below (dC, dI) (ql_mw h ad cI cZ cJ) A args s res) (F0 m 85 ls []) := by
  have C0q := C0
  obtain ⟨hx, hb, hr, hml, hown, hts, hlocks, hK, hA⟩ := C0q
  have fl86 := hts (Cond.fieldLink RX11 86 "TestedLoopsModel" "rows" "[J") (by decide +kernel)
  intro n
  induction n with
  | zero =>
    intro z x1 x2 x3 x4 x5 hf
    rw [f_X11_many_85] at hf
    cases hf
  | succ n ih =>
    intro z x1 x2 x3 x4 x5 hf H locs ls hP hD hS hl
    rw [f_X11_many_85] at hf
    refine lv_iload hx hb dX11_many_85 (lv_at hl 5 rfl) ?_
    refine lv_iconst (v := 4) hx hb dX11_many_87 (by decide) ?_
    refine lv_icmp_ge (tgt := 151) hx hb dX11_many_88 (by decide) (fun c3 => ?_) (fun c3 => ?_)
    · have hf := (if_pos c3).symm.trans hf
      refine lv_iinc (v := (x4 + 1)) (lv' := [(4, .int (x4 + 1)), (0, .ref h), (1, .int x1), (2, .int x2), (3, .int x3), (5, .int x5)]) hx hb dX11_many_151 hl (k := 4) rfl rfl (by decide) rfl (fun ls hl => ?_)
      refine lv_goto (tgt := 63) hx hb dX11_many_154 (by decide) ?_
      exact hk63 _ _ _ _ _ hf _ _ _ hP hD hS (lv_sub hl [1, 2, 3, 4, 0] rfl)
    · have hf := (if_neg c3).symm.trans hf
      refine lv_aload_n hx hb dX11_many_91 rfl (lv_at hl 0 rfl) ?_
      refine lv_iload_n hx hb dX11_many_92 rfl (lv_at hl 1 rfl) ?_
      refine lv_iload hx hb dX11_many_93 (lv_at hl 4 rfl) ?_
      refine lv_iload hx hb dX11_many_95 (lv_at hl 5 rfl) ?_
      obtain ⟨u4, hu4, hf⟩ := ql_bd hf
      refine ql_callRVi (As := [.int x1, .int x4, .int x5]) (rest := []) C0 (c_X11_to l dC dI h ad cI cZ cJ N z x1 x4 x5 u4 hu4) (cwV 3 hts gX11_many_X11_to rfl rfl rfl qv_X11_to ⟨Nat.le_of_ble_eq_true rfl, Nat.le_of_ble_eq_true rfl⟩) (va_recv hK.1 hP (ci := 11) (q0 := 0) rfl rfl) hK hP hS hl.1 rfl rfl (Nat.le_of_ble_eq_true rfl) dX11_many_97 (fun H1 locs hk hS => ?_)
      have hP := ql_keep hP hk
      refine lv_istore (lv' := [(6, .int u4), (0, .ref h), (1, .int x1), (2, .int x2), (3, .int x3), (4, .int x4), (5, .int x5)]) hx hb dX11_many_100 hl (by decide) rfl (fun ls hl => ?_)
      refine lv_aload_n hx hb dX11_many_102 rfl (lv_at hl 1 rfl) ?_
      refine va_get (D := (dC, dI)) (ci := 11) (v := .ref (ad 37)) (C := RX11) (T := TX11) (N := 41) hx hb hts iw_X11_many_X11 hown hK.1 hP 0 rfl rfl 37 (by decide) fl86 (fun _ h9 => h9) rfl dX11_many_103 ?_
      refine lv_iload hx hb dX11_many_106 (lv_at hl 5 rfl) ?_
      refine lv_dup2_11 hx hb dX11_many_108 rfl rfl ?_
      have g0 := ql_in (ql_gt hf)
      have hf := ql_gx hf
      refine va_lald (f := (z.2 37)) hx hb hK.1 hP 26 2 rfl rfl g0 dX11_many_109 ?_
      refine lv_iload hx hb dX11_many_110 (lv_at hl 0 rfl) ?_
      refine lv_if_ne (tgt := 123) hx hb dX11_many_112 (by decide) (fun c5 => ?_) (fun c5 => ?_)
      · have hf := (if_neg c5).symm.trans hf
        exact w_X11_many_123 C0 N k25 hk25 k63 hk63 (f_X11_many_85 N k25 k63 n) ih _ _ _ _ _ _ _ _ _ hf _ _ _ hP hD hS (lv_sub hl [1, 2, 3, 4, 5, 6, 0] rfl)
      · have hf := (if_pos c5).symm.trans hf
        refine lv_iload_n hx hb dX11_many_115 rfl (lv_at hl 4 rfl) ?_
        refine lv_if_ne (tgt := 123) hx hb dX11_many_116 (by decide) (fun c6 => ?_) (fun c6 => ?_)
        · have hf := (if_neg c6).symm.trans hf
          exact w_X11_many_123 C0 N k25 hk25 k63 hk63 (f_X11_many_85 N k25 k63 n) ih _ _ _ _ _ _ _ _ _ hf _ _ _ hP hD hS (lv_sub hl [1, 2, 3, 4, 5, 6, 0] rfl)
        · have hf := (if_pos c6).symm.trans hf
          refine lv_lconst (v := 1) hx hb dX11_many_119 (by decide) ?_
          refine lv_goto (tgt := 143) hx hb dX11_many_120 (by decide) ?_
          exact w_X11_many_143 C0 N k25 hk25 k63 hk63 (f_X11_many_85 N k25 k63 n) ih _ _ _ _ _ _ _ _ _ hf _ _ _ hP hD hS (lv_sub hl [1, 2, 3, 4, 5, 6] rfl)
set_option maxHeartbeats 4000000 in
set_option maxRecDepth 100000 in
theorem w_X11_many_63 {p : Program} {l : Launch} {e : Env} {s : State} {m : MethodId} {args : Array Value} {below : List Frame} {meth : Method} {c : Code} {dC : Nat → ClassId} {dI : Nat → Nat → Nat} {A : Nat → Prop} {h : Nat} {ad : Nat → Nat} {cI cZ cJ : ClassId} {res : Int64 × ql_Z} (C0 : ql_C p s m args meth c cX11_many 7 (some .long) wsX11_many RX11 (dC, dI) [(cI, .int), (cZ, .boolean), (cJ, .long)] A) (N : Nat) (k25 : ql_Z → Int32 → Int32 → Int32 → Option (Int64 × ql_Z)) (hk25 : ∀ (z : ql_Z) (x1 : Int32) (x2 : Int32) (x3 : Int32), k25 z x1 x2 x3 = some res → ∀ (H : Heap) (locs : List Loc) (ls : Array Slot), va_P (dC, dI) vwCl ((ql_mw h ad cI cZ cJ) z) H → va_D A ((ql_mw h ad cI cZ cJ) z) → va_S A s.heap H locs → lv_has ls 7 [(0, .ref h), (1, .int x1), (2, .int x2), (3, .int x3)] → W p l e rm_X11_many s m args below meth c H locs 0 0 (ql_Ql below (dC, dI) (ql_mw h ad cI cZ cJ) A args s res) (F0 m 25 ls [])) : ∀ (n : Nat), ∀ (z : ql_Z) (x1 : Int32) (x2 : Int32) (x3 : Int32) (x4 : Int32), f_X11_many_63 N k25 n z x1 x2 x3 x4 = some res → ∀ (H : Heap) (locs : List Loc) (ls : Array Slot), va_P (dC, dI) vwCl ((ql_mw h ad cI cZ cJ) z) H → va_D A ((ql_mw h ad cI cZ cJ) z) → va_S A s.heap H locs → lv_has ls 7 [(0, .ref h), (1, .int x1), (2, .int x2), (3, .int x3), (4, .int x4)] → W p l e rm_X11_many s m args below meth c H locs 0 0 (ql_Ql below (dC, dI) (ql_mw h ad cI cZ cJ) A args s res) (F0 m 63 ls []) := by
  have C0q := C0
  obtain ⟨hx, hb, hr, hml, hown, hts, hlocks, hK, hA⟩ := C0q
  have fl31 := hts (Cond.fieldLink RX11 31 "TestedLoopsModel" "many" "[I") (by decide +kernel)
  have fl86 := hts (Cond.fieldLink RX11 86 "TestedLoopsModel" "rows" "[J") (by decide +kernel)
  intro n
  induction n with
  | zero =>
    intro z x1 x2 x3 x4 hf
    rw [f_X11_many_63] at hf
    cases hf
  | succ n ih =>
    intro z x1 x2 x3 x4 hf H locs ls hP hD hS hl
    rw [f_X11_many_63] at hf
    refine lv_iload hx hb dX11_many_63 (lv_at hl 4 rfl) ?_
    refine lv_aload_n hx hb dX11_many_65 rfl (lv_at hl 0 rfl) ?_
    refine va_get (D := (dC, dI)) (ci := 11) (v := .ref (ad 9)) (C := RX11) (T := TX11) (N := 41) hx hb hts iw_X11_many_X11 hown hK.1 hP 0 rfl rfl 9 (by decide) fl31 (fun _ h9 => h9) rfl dX11_many_66 ?_
    refine lv_iload_n hx hb dX11_many_69 rfl (lv_at hl 1 rfl) ?_
    have g0 := ql_in (ql_gt hf)
    have hf := ql_gx hf
    refine va_iald (f := (z.1 9)) hx hb hK.1 hP 8 0 rfl rfl g0 dX11_many_70 ?_
    refine lv_icmp_gt (tgt := 157) hx hb dX11_many_71 (by decide) (fun c7 => ?_) (fun c7 => ?_)
    · have hf := (if_pos c7).symm.trans hf
      refine lv_iinc (v := (x3 + 1)) (lv' := [(3, .int (x3 + 1)), (0, .ref h), (1, .int x1), (2, .int x2), (4, .int x4)]) hx hb dX11_many_157 hl (k := 3) rfl rfl (by decide) rfl (fun ls hl => ?_)
      refine lv_goto (tgt := 25) hx hb dX11_many_160 (by decide) ?_
      exact hk25 _ _ _ _ hf _ _ _ hP hD hS (lv_sub hl [1, 2, 3, 0] rfl)
    · have hf := (if_neg c7).symm.trans hf
      refine lv_aload_n hx hb dX11_many_74 rfl (lv_at hl 0 rfl) ?_
      refine va_get (D := (dC, dI)) (ci := 11) (v := .ref (ad 37)) (C := RX11) (T := TX11) (N := 41) hx hb hts iw_X11_many_X11 hown hK.1 hP 0 rfl rfl 37 (by decide) fl86 (fun _ h9 => h9) rfl dX11_many_75 ?_
      refine lv_iload hx hb dX11_many_78 (lv_at hl 4 rfl) ?_
      refine lv_lconst (v := 0) hx hb dX11_many_80 (by decide) ?_
      have g0 := ql_in (ql_gt hf)
      have hf := ql_gx hf
      refine va_last (f := (z.2 37)) hx hb hK.1 hP hD hS 26 2 rfl rfl g0 dX11_many_81 (fun H locs hP hD hS => ?_)
      refine lv_iconst (v := 0) hx hb dX11_many_82 (by decide) ?_
      refine lv_istore (lv' := [(5, .int 0), (0, .ref h), (1, .int x1), (2, .int x2), (3, .int x3), (4, .int x4)]) hx hb dX11_many_83 hl (by decide) rfl (fun ls hl => ?_)
      exact w_X11_many_85 C0 N k25 hk25 (f_X11_many_63 N k25 n) ih N _ _ _ _ _ _ hf _ _ _ hP hD hS (lv_sub hl [1, 2, 3, 4, 5, 0] rfl)
set_option maxHeartbeats 4000000 in
set_option maxRecDepth 100000 in
theorem w_X11_many_33 {p : Program} {l : Launch} {e : Env} {s : State} {m : MethodId} {args : Array Value} {below : List Frame} {meth : Method} {c : Code} {dC : Nat → ClassId} {dI : Nat → Nat → Nat} {A : Nat → Prop} {h : Nat} {ad : Nat → Nat} {cI cZ cJ : ClassId} {res : Int64 × ql_Z} (C0 : ql_C p s m args meth c cX11_many 7 (some .long) wsX11_many RX11 (dC, dI) [(cI, .int), (cZ, .boolean), (cJ, .long)] A) (N : Nat) (k25 : ql_Z → Int32 → Int32 → Int32 → Option (Int64 × ql_Z)) (hk25 : ∀ (z : ql_Z) (x1 : Int32) (x2 : Int32) (x3 : Int32), k25 z x1 x2 x3 = some res → ∀ (H : Heap) (locs : List Loc) (ls : Array Slot), va_P (dC, dI) vwCl ((ql_mw h ad cI cZ cJ) z) H → va_D A ((ql_mw h ad cI cZ cJ) z) → va_S A s.heap H locs → lv_has ls 7 [(0, .ref h), (1, .int x1), (2, .int x2), (3, .int x3)] → W p l e rm_X11_many s m args below meth c H locs 0 0 (ql_Ql below (dC, dI) (ql_mw h ad cI cZ cJ) A args s res) (F0 m 25 ls [])) : ∀ (n : Nat), ∀ (z : ql_Z) (x1 : Int32) (x2 : Int32) (x3 : Int32) (x4 : Int32), f_X11_many_33 N k25 n z x1 x2 x3 x4 = some res → ∀ (H : Heap) (locs : List Loc) (ls : Array Slot), va_P (dC, dI) vwCl ((ql_mw h ad cI cZ cJ) z) H → va_D A ((ql_mw h ad cI cZ cJ) z) → va_S A s.heap H locs → lv_has ls 7 [(0, .ref h), (1, .int x1), (2, .int x2), (3, .int x3), (4, .int x4)] → W p l e rm_X11_many s m args below meth c H locs 0 0 (ql_Ql below (dC, dI) (ql_mw h ad cI cZ cJ) A args s res) (F0 m 33 ls []) := by
  have C0q := C0
  obtain ⟨hx, hb, hr, hml, hown, hts, hlocks, hK, hA⟩ := C0q
  have fl90 := hts (Cond.fieldLink RX11 90 "TestedLoopsModel" "before" "[J") (by decide +kernel)
  have fl86 := hts (Cond.fieldLink RX11 86 "TestedLoopsModel" "rows" "[J") (by decide +kernel)
  intro n
  induction n with
  | zero =>
    intro z x1 x2 x3 x4 hf
    rw [f_X11_many_33] at hf
    cases hf
  | succ n ih =>
    intro z x1 x2 x3 x4 hf H locs ls hP hD hS hl
    rw [f_X11_many_33] at hf
    refine lv_iload hx hb dX11_many_33 (lv_at hl 4 rfl) ?_
    refine lv_bipush (v := 17) hx hb dX11_many_35 (by decide) ?_
    refine lv_icmp_ge (tgt := 60) hx hb dX11_many_37 (by decide) (fun c8 => ?_) (fun c8 => ?_)
    · have hf := (if_pos c8).symm.trans hf
      refine lv_iconst (v := 0) hx hb dX11_many_60 (by decide) ?_
      refine lv_istore (lv' := [(4, .int 0), (0, .ref h), (1, .int x1), (2, .int x2), (3, .int x3)]) hx hb dX11_many_61 hl (by decide) rfl (fun ls hl => ?_)
      exact w_X11_many_63 C0 N k25 hk25 N _ _ _ _ _ hf _ _ _ hP hD hS (lv_sub hl [1, 2, 3, 4, 0] rfl)
    · have hf := (if_neg c8).symm.trans hf
      refine lv_aload_n hx hb dX11_many_40 rfl (lv_at hl 0 rfl) ?_
      refine va_get (D := (dC, dI)) (ci := 11) (v := .ref (ad 38)) (C := RX11) (T := TX11) (N := 41) hx hb hts iw_X11_many_X11 hown hK.1 hP 0 rfl rfl 38 (by decide) fl90 (fun _ h9 => h9) rfl dX11_many_41 ?_
      refine lv_iload hx hb dX11_many_44 (lv_at hl 4 rfl) ?_
      refine lv_aload_n hx hb dX11_many_46 rfl (lv_at hl 0 rfl) ?_
      refine va_get (D := (dC, dI)) (ci := 11) (v := .ref (ad 37)) (C := RX11) (T := TX11) (N := 41) hx hb hts iw_X11_many_X11 hown hK.1 hP 0 rfl rfl 37 (by decide) fl86 (fun _ h9 => h9) rfl dX11_many_47 ?_
      refine lv_iload hx hb dX11_many_50 (lv_at hl 4 rfl) ?_
      have g0 := ql_in (ql_gt hf)
      have hf := ql_gx hf
      refine va_lald (f := (z.2 37)) hx hb hK.1 hP 26 2 rfl rfl g0 dX11_many_52 ?_
      have g0 := ql_in (ql_gt hf)
      have hf := ql_gx hf
      refine va_last (f := (z.2 38)) hx hb hK.1 hP hD hS 27 2 rfl rfl g0 dX11_many_53 (fun H locs hP hD hS => ?_)
      refine lv_iinc (v := (x4 + 1)) (lv' := [(4, .int (x4 + 1)), (0, .ref h), (1, .int x1), (2, .int x2), (3, .int x3)]) hx hb dX11_many_54 hl (k := 4) rfl rfl (by decide) rfl (fun ls hl => ?_)
      refine lv_goto (tgt := 33) hx hb dX11_many_57 (by decide) ?_
      exact ih _ _ _ _ _ hf _ _ _ hP hD hS (lv_sub hl [1, 2, 3, 4, 0] rfl)
set_option maxHeartbeats 4000000 in
set_option maxRecDepth 100000 in
theorem w_X11_many_25 {p : Program} {l : Launch} {e : Env} {s : State} {m : MethodId} {args : Array Value} {below : List Frame} {meth : Method} {c : Code} {dC : Nat → ClassId} {dI : Nat → Nat → Nat} {A : Nat → Prop} {h : Nat} {ad : Nat → Nat} {cI cZ cJ : ClassId} {res : Int64 × ql_Z} (C0 : ql_C p s m args meth c cX11_many 7 (some .long) wsX11_many RX11 (dC, dI) [(cI, .int), (cZ, .boolean), (cJ, .long)] A) (N : Nat) : ∀ (n : Nat), ∀ (z : ql_Z) (x1 : Int32) (x2 : Int32) (x3 : Int32), f_X11_many_25 N n z x1 x2 x3 = some res → ∀ (H : Heap) (locs : List Loc) (ls : Array Slot), va_P (dC, dI) vwCl ((ql_mw h ad cI cZ cJ) z) H → va_D A ((ql_mw h ad cI cZ cJ) z) → va_S A s.heap H locs → lv_has ls 7 [(0, .ref h), (1, .int x1), (2, .int x2), (3, .int x3)] → W p l e rm_X11_many s m args below meth c H locs 0 0 (ql_Ql below (dC, dI) (ql_mw h ad cI cZ cJ) A args s res) (F0 m 25 ls []) := by
  have C0q := C0
  obtain ⟨hx, hb, hr, hml, hown, hts, hlocks, hK, hA⟩ := C0q
  have fl86 := hts (Cond.fieldLink RX11 86 "TestedLoopsModel" "rows" "[J") (by decide +kernel)
  intro n
  induction n with
  | zero =>
    intro z x1 x2 x3 hf
    rw [f_X11_many_25] at hf
    cases hf
  | succ n ih =>
    intro z x1 x2 x3 hf H locs ls hP hD hS hl
    rw [f_X11_many_25] at hf
    refine lv_iload_n hx hb dX11_many_25 rfl (lv_at hl 3 rfl) ?_
    refine lv_iload_n hx hb dX11_many_26 rfl (lv_at hl 2 rfl) ?_
    refine lv_icmp_gt (tgt := 163) hx hb dX11_many_27 (by decide) (fun c9 => ?_) (fun c9 => ?_)
    · have hf := (if_pos c9).symm.trans hf
      refine lv_aload_n hx hb dX11_many_163 rfl (lv_at hl 0 rfl) ?_
      refine va_get (D := (dC, dI)) (ci := 11) (v := .ref (ad 37)) (C := RX11) (T := TX11) (N := 41) hx hb hts iw_X11_many_X11 hown hK.1 hP 0 rfl rfl 37 (by decide) fl86 (fun _ h9 => h9) rfl dX11_many_164 ?_
      refine lv_iconst (v := 0) hx hb dX11_many_167 (by decide) ?_
      refine va_lald (f := (z.2 37)) hx hb hK.1 hP 26 2 rfl rfl (ql_in (i := 0) (n := 17) (by decide)) dX11_many_168 ?_
      refine ql_tvl (y := (z.2 37) 0) (congrArg (z.2 37) (by decide)) ?_
      exact ql_lret C0 hf hP hD hS dX11_many_169
    · have hf := (if_neg c9).symm.trans hf
      refine lv_iconst (v := 0) hx hb dX11_many_30 (by decide) ?_
      refine lv_istore (lv' := [(4, .int 0), (0, .ref h), (1, .int x1), (2, .int x2), (3, .int x3)]) hx hb dX11_many_31 hl (by decide) rfl (fun ls hl => ?_)
      exact w_X11_many_33 C0 N (f_X11_many_25 N n) ih N _ _ _ _ _ hf _ _ _ hP hD hS (lv_sub hl [1, 2, 3, 4, 0] rfl)
set_option maxHeartbeats 4000000 in
set_option maxRecDepth 100000 in
theorem w_X11_many_0 {p : Program} {l : Launch} {e : Env} {s : State} {m : MethodId} {args : Array Value} {below : List Frame} {meth : Method} {c : Code} {dC : Nat → ClassId} {dI : Nat → Nat → Nat} {A : Nat → Prop} {h : Nat} {ad : Nat → Nat} {cI cZ cJ : ClassId} {res : Int64 × ql_Z} (C0 : ql_C p s m args meth c cX11_many 7 (some .long) wsX11_many RX11 (dC, dI) [(cI, .int), (cZ, .boolean), (cJ, .long)] A) (N : Nat) : ∀ (z : ql_Z) (x1 : Int32) (x2 : Int32), f_X11_many_0 N z x1 x2 = some res → ∀ (H : Heap) (locs : List Loc) (ls : Array Slot), va_P (dC, dI) vwCl ((ql_mw h ad cI cZ cJ) z) H → va_D A ((ql_mw h ad cI cZ cJ) z) → va_S A s.heap H locs → lv_has ls 7 [(0, .ref h), (1, .int x1), (2, .int x2)] → W p l e rm_X11_many s m args below meth c H locs 0 0 (ql_Ql below (dC, dI) (ql_mw h ad cI cZ cJ) A args s res) (F0 m 0 ls []) := by
  have C0q := C0
  obtain ⟨hx, hb, hr, hml, hown, hts, hlocks, hK, hA⟩ := C0q
  have fl200 := hts (Cond.constantLong RX11 200 (14)) (by decide +kernel)
  intro z x1 x2 hf H locs ls hP hD hS hl
  unfold f_X11_many_0 at hf
  refine lv_iload_n hx hb dX11_many_0 rfl (lv_at hl 1 rfl) ?_
  obtain ⟨u10, hu10, hf⟩ := ql_bd hf
  refine ql_callRSi (As := [.int x1]) (rest := []) C0 (c_X11_isProgram l dC dI N x1 u10 hu10) (va_cwS 1 hts gX11_many_X11_isProgram rfl rfl rfl qd_X11_isProgram ⟨Nat.le_of_ble_eq_true rfl, Nat.le_of_ble_eq_true rfl⟩) (hK.sub [] rfl) ql_nil hS hl.1 rfl rfl (Nat.le_of_ble_eq_true rfl) dX11_many_1 (fun H1 locs hk hS => ?_)
  have hP := ql_keep hP hk
  refine lv_if_eq (tgt := 19) hx hb dX11_many_4 (by decide) (fun c11 => ?_) (fun c11 => ?_)
  · have hf := (if_pos c11).symm.trans hf
    exact w_X11_many_19 C0 N _ hf _ _ _ hP hD hS (lv_sub hl [0] rfl)
  · have hf := (if_neg c11).symm.trans hf
    refine lv_iload_n hx hb dX11_many_7 rfl (lv_at hl 2 rfl) ?_
    refine lv_i2l hx hb dX11_many_8 rfl ?_
    refine lv_lconst (v := 0) hx hb dX11_many_9 (by decide) ?_
    refine lv_ldc2 hx hb hown fl200 dX11_many_10 ?_
    obtain ⟨u12, hu12, hf⟩ := ql_bd hf
    refine ql_callRSi (As := [.long x2.toInt64, .long 0, .long 14]) (rest := []) C0 (c_X11_in l dC dI N x2.toInt64 0 14 u12 hu12) (va_cwS 3 hts gX11_many_X11_in rfl rfl rfl qd_X11_in ⟨Nat.le_of_ble_eq_true rfl, Nat.le_of_ble_eq_true rfl⟩) (hK.sub [] rfl) ql_nil hS hl.1 rfl rfl (Nat.le_of_ble_eq_true rfl) dX11_many_13 (fun H1 locs hk hS => ?_)
    have hP := ql_keep hP hk
    refine lv_if_ne (tgt := 23) hx hb dX11_many_16 (by decide) (fun c13 => ?_) (fun c13 => ?_)
    · have hf := (if_neg c13).symm.trans hf
      refine lv_iconst (v := 0) hx hb dX11_many_23 (by decide) ?_
      refine lv_istore_n (lv' := [(3, .int 0), (0, .ref h), (1, .int x1), (2, .int x2)]) hx hb dX11_many_24 rfl hl (by decide) rfl (fun ls hl => ?_)
      exact w_X11_many_25 C0 N N _ _ _ _ hf _ _ _ hP hD hS (lv_sub hl [1, 2, 3, 0] rfl)
    · have hf := (if_pos c13).symm.trans hf
      exact w_X11_many_19 C0 N _ hf _ _ _ hP hD hS (lv_sub hl [0] rfl)
set_option maxRecDepth 100000 in
theorem c_X11_many (l : Launch) (dC : Nat → ClassId) (dI : Nat → Nat → Nat) (h : Nat) (ad : Nat → Nat) (cI cZ cJ : ClassId) (N : Nat) (z : ql_Z) (x1 : Int32) (x2 : Int32) (res : Int64 × ql_Z) (hf : f_X11_many N z x1 x2 = some res) : ql_Ml l yX11_many wsX11_many rm_X11_many (dC, dI) [(cI, .int), (cZ, .boolean), (cJ, .long)] (ql_mw h ad cI cZ cJ) [.ref h, .int x1, .int x2] z res :=
  ql_start_l (by decide) rfl (Nat.le_of_ble_eq_true rfl) (fun p e s m below meth c A ls C0 hl hP hD hS => w_X11_many_0 C0 N z x1 x2 hf s.heap [] ls hP hD hS (lv_sub (show lv_has ls 7 [(0, .ref h), (1, .int x1), (2, .int x2)] from hl) [0, 1, 2] rfl))
/-! ===== TestedLoopsModel.walks(IIJ)Z ===== -/
abbrev rm_X11_walks : Room := { frames := 2, cells := 0, slots := 0, locals := 45 }
theorem iw_X11_walks_X11 : ∀ w ∈ wsX110, w ∈ wsX11_walks := fun w h => List.mem_cons_of_mem _ (List.mem_append_right _ h)
theorem qv_X11_walks : yX11_walks.cls = RX11 ∧ yX11_walks.cls ≠ "java/lang/invoke/MethodHandle" ∧ yX11_walks.cls ≠ "java/lang/invoke/VarHandle" ∧ (parseMethodDescriptor yX11_walks.desc).map (fun d => d.parameters.length) = some 3 := by decide +kernel
def f_X11_walks_76 (N : Nat) : Nat → ql_Z → Int32 → Int32 → Int64 → Int32 → Int64 → Option (Int32 × ql_Z)
  | 0, _, _, _, _, _, _ => none
  | n + 1, z, x1, x2, x5, x7, x8 => if decide (¬ x5 = 0) = true then if decide (¬ x5 = 0) = true then (f_X11_to N z x1 x7 ((x8 / x5).toInt32 - (x8 / x5).toInt32 / 4 * 4)).bind fun u1 => if u1 ≤ 0 then some (1, ((ql_up z.1 40 (fun _ => u1)), z.2)) else if (z.1 39 0) = x2 then some (1, ((ql_up z.1 40 (fun _ => u1)), z.2)) else (f_X11_actOf N ((ql_up z.1 40 (fun _ => u1)), z.2) x1 u1).bind fun u4 => if decide (¬ (x5 / 12) = 0) = true then if u4 = ((((x8 - x8 / x5 * x5) / (x5 / 12)).toInt32 / 4) + 1) then f_X11_walks_76 N n ((ql_up (ql_up z.1 39 (fun _ => ((z.1 39 0) + 1))) 40 (fun _ => u1)), z.2) x1 x2 (x5 / 12) u1 (x8 - x8 / x5 * x5) else some (1, ((ql_up z.1 40 (fun _ => u1)), z.2)) else none else none else none
def f_X11_walks_27 (N : Nat) : Nat → ql_Z → Int32 → Int32 → Int64 → Int64 → Int32 → Option (Int32 × ql_Z)
  | 0, _, _, _, _, _, _ => none
  | n + 1, z, x1, x2, x3, x5, x7 => if x2 ≤ x7 then (f_X11_in N x3 0 ((4 * x5) - 1)).bind fun u7 => if u7 = 0 then some (0, z) else f_X11_walks_76 N N ((ql_up z.1 39 (fun _ => 0)), z.2) x1 x2 x5 0 x3 else f_X11_walks_27 N n z x1 x2 x3 (x5 * 12) (x7 + 1)
def f_X11_walks_0 (N : Nat) (z : ql_Z) (x1 : Int32) (x2 : Int32) (x3 : Int64) : Option (Int32 × ql_Z) := (f_X11_isProgram N x1).bind fun u9 => if u9 = 0 then some (0, z) else (f_X11_in N x2.toInt64 0 12).bind fun u11 => if u11 = 0 then some (0, z) else f_X11_walks_27 N N z x1 x2 x3 1 0
def f_X11_walks (N : Nat) (z : ql_Z) (x1 : Int32) (x2 : Int32) (x3 : Int64) : Option (Int32 × ql_Z) := f_X11_walks_0 N z x1 x2 x3
set_option maxHeartbeats 4000000 in
set_option maxRecDepth 100000 in
theorem w_X11_walks_76 {p : Program} {l : Launch} {e : Env} {s : State} {m : MethodId} {args : Array Value} {below : List Frame} {meth : Method} {c : Code} {dC : Nat → ClassId} {dI : Nat → Nat → Nat} {A : Nat → Prop} {h : Nat} {ad : Nat → Nat} {cI cZ cJ : ClassId} {res : Int32 × ql_Z} (C0 : ql_C p s m args meth c cX11_walks 11 (some .boolean) wsX11_walks RX11 (dC, dI) [(cI, .int), (cZ, .boolean), (cJ, .long)] A) (N : Nat) : ∀ (n : Nat), ∀ (z : ql_Z) (x1 : Int32) (x2 : Int32) (x5 : Int64) (x7 : Int32) (x8 : Int64), f_X11_walks_76 N n z x1 x2 x5 x7 x8 = some res → ∀ (H : Heap) (locs : List Loc) (ls : Array Slot), va_P (dC, dI) vwCl ((ql_mw h ad cI cZ cJ) z) H → va_D A ((ql_mw h ad cI cZ cJ) z) → va_S A s.heap H locs → lv_has ls 11 [(0, .ref h), (1, .int x1), (2, .int x2), (5, .long x5), (7, .int x7), (8, .long x8)] → W p l e rm_X11_walks s m args below meth c H locs 0 0 (ql_Qi below (dC, dI) (ql_mw h ad cI cZ cJ) A args s res) (F0 m 76 ls []) := by
  have C0q := C0
  obtain ⟨hx, hb, hr, hml, hown, hts, hlocks, hK, hA⟩ := C0q
  have fl301 := hts (Cond.fieldLink RX11 301 "TestedLoopsModel" "where" "I") (by decide +kernel)
  have fl267 := hts (Cond.constantLong RX11 267 (12)) (by decide +kernel)
  have fl298 := hts (Cond.fieldLink RX11 298 "TestedLoopsModel" "walked" "I") (by decide +kernel)
  intro n
  induction n with
  | zero =>
    intro z x1 x2 x5 x7 x8 hf
    rw [f_X11_walks_76] at hf
    cases hf
  | succ n ih =>
    intro z x1 x2 x5 x7 x8 hf H locs ls hP hD hS hl
    rw [f_X11_walks_76] at hf
    refine lv_lload hx hb dX11_walks_76 (lv_at hl 5 rfl) ?_
    refine lv_lload hx hb dX11_walks_78 (lv_at hl 3 rfl) ?_
    have g0 := of_decide_eq_true (ql_gt hf)
    have hf := ql_gx hf
    refine lv_ldiv hx hb dX11_walks_80 g0 ?_
    refine lv_l2i hx hb dX11_walks_81 rfl ?_
    refine lv_iconst (v := 4) hx hb dX11_walks_82 (by decide) ?_
    refine lv_irem hx hb dX11_walks_83 (by decide) ?_
    refine lv_istore (lv' := [(10, .int ((x8 / x5).toInt32 - (x8 / x5).toInt32 / 4 * 4)), (0, .ref h), (1, .int x1), (2, .int x2), (5, .long x5), (7, .int x7), (8, .long x8)]) hx hb dX11_walks_84 hl (by decide) rfl (fun ls hl => ?_)
    refine lv_lload hx hb dX11_walks_86 (lv_at hl 6 rfl) ?_
    refine lv_lload hx hb dX11_walks_88 (lv_at hl 4 rfl) ?_
    have g0 := of_decide_eq_true (ql_gt hf)
    have hf := ql_gx hf
    refine lv_lrem hx hb dX11_walks_90 g0 ?_
    refine lv_lstore (lv' := [(8, .long (x8 - x8 / x5 * x5)), (10, .int ((x8 / x5).toInt32 - (x8 / x5).toInt32 / 4 * 4)), (0, .ref h), (1, .int x1), (2, .int x2), (5, .long x5), (7, .int x7)]) hx hb dX11_walks_91 hl (by decide) rfl (fun ls hl => ?_)
    refine lv_aload_n hx hb dX11_walks_93 rfl (lv_at hl 2 rfl) ?_
    refine lv_aload_n hx hb dX11_walks_94 rfl (lv_at hl 2 rfl) ?_
    refine lv_iload_n hx hb dX11_walks_95 rfl (lv_at hl 3 rfl) ?_
    refine lv_iload hx hb dX11_walks_96 (lv_at hl 6 rfl) ?_
    refine lv_iload hx hb dX11_walks_98 (lv_at hl 1 rfl) ?_
    obtain ⟨u1, hu1, hf⟩ := ql_bd hf
    refine ql_callRVi (As := [.int x1, .int x7, .int ((x8 / x5).toInt32 - (x8 / x5).toInt32 / 4 * 4)]) (rest := [.ref h]) C0 (c_X11_to l dC dI h ad cI cZ cJ N z x1 x7 ((x8 / x5).toInt32 - (x8 / x5).toInt32 / 4 * 4) u1 hu1) (cwV 3 hts gX11_walks_X11_to rfl rfl rfl qv_X11_to ⟨Nat.le_of_ble_eq_true rfl, Nat.le_of_ble_eq_true rfl⟩) (va_recv hK.1 hP (ci := 11) (q0 := 0) rfl rfl) hK hP hS hl.1 rfl rfl (Nat.le_of_ble_eq_true rfl) dX11_walks_100 (fun H1 locs hk hS => ?_)
    have hP := ql_keep hP hk
    refine va_put (D := (dC, dI)) (ci := 11) (v := .int u1) (ty := .int) (C := RX11) (T := TX11) (N := 41) hx hb hts iw_X11_walks_X11 tyX11 tyX11_ok nmX11 hown hK.1 hP hD hS 0 rfl rfl 40 (by decide) fl301 (fun _ h9 => h9) rfl (by decide +kernel) rfl rfl (Nat.le_of_ble_eq_true rfl) dX11_walks_103 (fun H locs hP hD hS => ?_)
    refine lv_lload hx hb dX11_walks_106 (lv_at hl 5 rfl) ?_
    refine lv_ldc2 hx hb hown fl267 dX11_walks_108 ?_
    refine lv_ldiv hx hb dX11_walks_111 (by decide) ?_
    refine lv_lstore (lv' := [(5, .long (x5 / 12)), (8, .long (x8 - x8 / x5 * x5)), (10, .int ((x8 / x5).toInt32 - (x8 / x5).toInt32 / 4 * 4)), (0, .ref h), (1, .int x1), (2, .int x2), (7, .int x7)]) hx hb dX11_walks_112 hl (by decide) rfl (fun ls hl => ?_)
    refine lv_aload_n hx hb dX11_walks_114 rfl (lv_at hl 3 rfl) ?_
    refine va_get (D := (dC, dI)) (ci := 11) (v := .int u1) (C := RX11) (T := TX11) (N := 41) hx hb hts iw_X11_walks_X11 hown hK.1 hP 0 rfl rfl 40 (by decide) fl301 (fun _ h9 => h9) rfl dX11_walks_115 ?_
    refine lv_if_le (tgt := 151) hx hb dX11_walks_118 (by decide) (fun c2 => ?_) (fun c2 => ?_)
    · have hf := (if_pos c2).symm.trans hf
      refine lv_iconst (v := 1) hx hb dX11_walks_151 (by decide) ?_
      exact ql_zret C0 (Or.inr rfl) hf hP hD hS dX11_walks_152
    · have hf := (if_neg c2).symm.trans hf
      refine lv_aload_n hx hb dX11_walks_121 rfl (lv_at hl 3 rfl) ?_
      refine va_get (D := (dC, dI)) (ci := 11) (v := .int (z.1 39 0)) (C := RX11) (T := TX11) (N := 41) hx hb hts iw_X11_walks_X11 hown hK.1 hP 0 rfl rfl 39 (by decide) fl298 (fun _ h9 => h9) rfl dX11_walks_122 ?_
      refine lv_iload_n hx hb dX11_walks_125 rfl (lv_at hl 5 rfl) ?_
      refine lv_icmp_eq (tgt := 151) hx hb dX11_walks_126 (by decide) (fun c3 => ?_) (fun c3 => ?_)
      · have hf := (if_pos c3).symm.trans hf
        refine lv_iconst (v := 1) hx hb dX11_walks_151 (by decide) ?_
        exact ql_zret C0 (Or.inr rfl) hf hP hD hS dX11_walks_152
      · have hf := (if_neg c3).symm.trans hf
        refine lv_aload_n hx hb dX11_walks_129 rfl (lv_at hl 3 rfl) ?_
        refine lv_iload_n hx hb dX11_walks_130 rfl (lv_at hl 4 rfl) ?_
        refine lv_aload_n hx hb dX11_walks_131 rfl (lv_at hl 3 rfl) ?_
        refine va_get (D := (dC, dI)) (ci := 11) (v := .int u1) (C := RX11) (T := TX11) (N := 41) hx hb hts iw_X11_walks_X11 hown hK.1 hP 0 rfl rfl 40 (by decide) fl301 (fun _ h9 => h9) rfl dX11_walks_132 ?_
        obtain ⟨u4, hu4, hf⟩ := ql_bd hf
        refine ql_callRVi (As := [.int x1, .int u1]) (rest := []) C0 (c_X11_actOf l dC dI h ad cI cZ cJ N ((ql_up z.1 40 (fun _ => u1)), z.2) x1 u1 u4 hu4) (cwV 2 hts gX11_walks_X11_actOf rfl rfl rfl qv_X11_actOf ⟨Nat.le_of_ble_eq_true rfl, Nat.le_of_ble_eq_true rfl⟩) (va_recv hK.1 hP (ci := 11) (q0 := 0) rfl rfl) hK hP hS hl.1 rfl rfl (Nat.le_of_ble_eq_true rfl) dX11_walks_135 (fun H1 locs hk hS => ?_)
        have hP := ql_keep hP hk
        refine lv_lload hx hb dX11_walks_138 (lv_at hl 1 rfl) ?_
        refine lv_lload hx hb dX11_walks_140 (lv_at hl 0 rfl) ?_
        have g0 := of_decide_eq_true (ql_gt hf)
        have hf := ql_gx hf
        refine lv_ldiv hx hb dX11_walks_142 g0 ?_
        refine lv_l2i hx hb dX11_walks_143 rfl ?_
        refine lv_iconst (v := 4) hx hb dX11_walks_144 (by decide) ?_
        refine lv_idiv hx hb dX11_walks_145 (by decide) ?_
        refine lv_iconst (v := 1) hx hb dX11_walks_146 (by decide) ?_
        refine lv_iadd hx hb dX11_walks_147 ?_
        refine lv_icmp_eq (tgt := 153) hx hb dX11_walks_148 (by decide) (fun c5 => ?_) (fun c5 => ?_)
        · have hf := (if_pos c5).symm.trans hf
          refine lv_aload_n hx hb dX11_walks_153 rfl (lv_at hl 3 rfl) ?_
          refine va_get (D := (dC, dI)) (ci := 11) (v := .int u1) (C := RX11) (T := TX11) (N := 41) hx hb hts iw_X11_walks_X11 hown hK.1 hP 0 rfl rfl 40 (by decide) fl301 (fun _ h9 => h9) rfl dX11_walks_154 ?_
          refine lv_istore (lv' := [(7, .int u1), (5, .long (x5 / 12)), (8, .long (x8 - x8 / x5 * x5)), (10, .int ((x8 / x5).toInt32 - (x8 / x5).toInt32 / 4 * 4)), (0, .ref h), (1, .int x1), (2, .int x2)]) hx hb dX11_walks_157 hl (by decide) rfl (fun ls hl => ?_)
          refine lv_aload_n hx hb dX11_walks_159 rfl (lv_at hl 4 rfl) ?_
          refine lv_dup hx hb dX11_walks_160 rfl ?_
          refine va_get (D := (dC, dI)) (ci := 11) (v := .int (z.1 39 0)) (C := RX11) (T := TX11) (N := 41) hx hb hts iw_X11_walks_X11 hown hK.1 hP 0 rfl rfl 39 (by decide) fl298 (fun _ h9 => h9) rfl dX11_walks_161 ?_
          refine lv_iconst (v := 1) hx hb dX11_walks_164 (by decide) ?_
          refine lv_iadd hx hb dX11_walks_165 ?_
          refine va_put (D := (dC, dI)) (ci := 11) (v := .int ((z.1 39 0) + 1)) (ty := .int) (C := RX11) (T := TX11) (N := 41) hx hb hts iw_X11_walks_X11 tyX11 tyX11_ok nmX11 hown hK.1 hP hD hS 0 rfl rfl 39 (by decide) fl298 (fun _ h9 => h9) rfl (by decide +kernel) rfl rfl (Nat.le_of_ble_eq_true rfl) dX11_walks_166 (fun H locs hP hD hS => ?_)
          refine lv_goto (tgt := 76) hx hb dX11_walks_169 (by decide) ?_
          exact ih _ _ _ _ _ _ hf _ _ _ hP hD hS (lv_sub hl [4, 5, 6, 1, 0, 2] rfl)
        · have hf := (if_neg c5).symm.trans hf
          refine lv_iconst (v := 1) hx hb dX11_walks_151 (by decide) ?_
          exact ql_zret C0 (Or.inr rfl) hf hP hD hS dX11_walks_152
set_option maxHeartbeats 4000000 in
set_option maxRecDepth 100000 in
theorem w_X11_walks_27 {p : Program} {l : Launch} {e : Env} {s : State} {m : MethodId} {args : Array Value} {below : List Frame} {meth : Method} {c : Code} {dC : Nat → ClassId} {dI : Nat → Nat → Nat} {A : Nat → Prop} {h : Nat} {ad : Nat → Nat} {cI cZ cJ : ClassId} {res : Int32 × ql_Z} (C0 : ql_C p s m args meth c cX11_walks 11 (some .boolean) wsX11_walks RX11 (dC, dI) [(cI, .int), (cZ, .boolean), (cJ, .long)] A) (N : Nat) : ∀ (n : Nat), ∀ (z : ql_Z) (x1 : Int32) (x2 : Int32) (x3 : Int64) (x5 : Int64) (x7 : Int32), f_X11_walks_27 N n z x1 x2 x3 x5 x7 = some res → ∀ (H : Heap) (locs : List Loc) (ls : Array Slot), va_P (dC, dI) vwCl ((ql_mw h ad cI cZ cJ) z) H → va_D A ((ql_mw h ad cI cZ cJ) z) → va_S A s.heap H locs → lv_has ls 11 [(0, .ref h), (1, .int x1), (2, .int x2), (3, .long x3), (5, .long x5), (7, .int x7)] → W p l e rm_X11_walks s m args below meth c H locs 0 0 (ql_Qi below (dC, dI) (ql_mw h ad cI cZ cJ) A args s res) (F0 m 27 ls []) := by
  have C0q := C0
  obtain ⟨hx, hb, hr, hml, hown, hts, hlocks, hK, hA⟩ := C0q
  have fl296 := hts (Cond.constantLong RX11 296 (4)) (by decide +kernel)
  have fl298 := hts (Cond.fieldLink RX11 298 "TestedLoopsModel" "walked" "I") (by decide +kernel)
  have fl267 := hts (Cond.constantLong RX11 267 (12)) (by decide +kernel)
  intro n
  induction n with
  | zero =>
    intro z x1 x2 x3 x5 x7 hf
    rw [f_X11_walks_27] at hf
    cases hf
  | succ n ih =>
    intro z x1 x2 x3 x5 x7 hf H locs ls hP hD hS hl
    rw [f_X11_walks_27] at hf
    refine lv_iload hx hb dX11_walks_27 (lv_at hl 5 rfl) ?_
    refine lv_iload_n hx hb dX11_walks_29 rfl (lv_at hl 2 rfl) ?_
    refine lv_icmp_ge (tgt := 47) hx hb dX11_walks_30 (by decide) (fun c6 => ?_) (fun c6 => ?_)
    · have hf := (if_pos c6).symm.trans hf
      refine lv_lload_n hx hb dX11_walks_47 rfl (lv_at hl 3 rfl) ?_
      refine lv_lconst (v := 0) hx hb dX11_walks_48 (by decide) ?_
      refine lv_ldc2 hx hb hown fl296 dX11_walks_49 ?_
      refine lv_lload hx hb dX11_walks_52 (lv_at hl 4 rfl) ?_
      refine lv_lmul hx hb dX11_walks_54 ?_
      refine lv_lconst (v := 1) hx hb dX11_walks_55 (by decide) ?_
      refine lv_lsub hx hb dX11_walks_56 ?_
      obtain ⟨u7, hu7, hf⟩ := ql_bd hf
      refine ql_callRSi (As := [.long x3, .long 0, .long ((4 * x5) - 1)]) (rest := []) C0 (c_X11_in l dC dI N x3 0 ((4 * x5) - 1) u7 hu7) (va_cwS 3 hts gX11_walks_X11_in rfl rfl rfl qd_X11_in ⟨Nat.le_of_ble_eq_true rfl, Nat.le_of_ble_eq_true rfl⟩) (hK.sub [] rfl) ql_nil hS hl.1 rfl rfl (Nat.le_of_ble_eq_true rfl) dX11_walks_57 (fun H1 locs hk hS => ?_)
      have hP := ql_keep hP hk
      refine lv_if_ne (tgt := 65) hx hb dX11_walks_60 (by decide) (fun c8 => ?_) (fun c8 => ?_)
      · have hf := (if_neg c8).symm.trans hf
        refine lv_aload_n hx hb dX11_walks_65 rfl (lv_at hl 0 rfl) ?_
        refine lv_iconst (v := 0) hx hb dX11_walks_66 (by decide) ?_
        refine va_put (D := (dC, dI)) (ci := 11) (v := .int 0) (ty := .int) (C := RX11) (T := TX11) (N := 41) hx hb hts iw_X11_walks_X11 tyX11 tyX11_ok nmX11 hown hK.1 hP hD hS 0 rfl rfl 39 (by decide) fl298 (fun _ h9 => h9) rfl (by decide +kernel) rfl rfl (Nat.le_of_ble_eq_true rfl) dX11_walks_67 (fun H locs hP hD hS => ?_)
        refine lv_iconst (v := 0) hx hb dX11_walks_70 (by decide) ?_
        refine lv_istore (lv' := [(7, .int 0), (0, .ref h), (1, .int x1), (2, .int x2), (3, .long x3), (5, .long x5)]) hx hb dX11_walks_71 hl (by decide) rfl (fun ls hl => ?_)
        refine lv_lload_n hx hb dX11_walks_73 rfl (lv_at hl 4 rfl) ?_
        refine lv_lstore (lv' := [(8, .long x3), (7, .int 0), (0, .ref h), (1, .int x1), (2, .int x2), (3, .long x3), (5, .long x5)]) hx hb dX11_walks_74 hl (by decide) rfl (fun ls hl => ?_)
        exact w_X11_walks_76 C0 N N _ _ _ _ _ _ hf _ _ _ hP hD hS (lv_sub hl [2, 3, 4, 6, 1, 0] rfl)
      · have hf := (if_pos c8).symm.trans hf
        refine lv_iconst (v := 0) hx hb dX11_walks_63 (by decide) ?_
        exact ql_zret C0 (Or.inl rfl) hf hP hD hS dX11_walks_64
    · have hf := (if_neg c6).symm.trans hf
      refine lv_lload hx hb dX11_walks_33 (lv_at hl 4 rfl) ?_
      refine lv_ldc2 hx hb hown fl267 dX11_walks_35 ?_
      refine lv_lmul hx hb dX11_walks_38 ?_
      refine lv_lstore (lv' := [(5, .long (x5 * 12)), (0, .ref h), (1, .int x1), (2, .int x2), (3, .long x3), (7, .int x7)]) hx hb dX11_walks_39 hl (by decide) rfl (fun ls hl => ?_)
      refine lv_iinc (v := (x7 + 1)) (lv' := [(7, .int (x7 + 1)), (5, .long (x5 * 12)), (0, .ref h), (1, .int x1), (2, .int x2), (3, .long x3)]) hx hb dX11_walks_41 hl (k := 5) rfl rfl (by decide) rfl (fun ls hl => ?_)
      refine lv_goto (tgt := 27) hx hb dX11_walks_44 (by decide) ?_
      exact ih _ _ _ _ _ _ hf _ _ _ hP hD hS (lv_sub hl [2, 3, 4, 5, 1, 0] rfl)
set_option maxHeartbeats 4000000 in
set_option maxRecDepth 100000 in
theorem w_X11_walks_0 {p : Program} {l : Launch} {e : Env} {s : State} {m : MethodId} {args : Array Value} {below : List Frame} {meth : Method} {c : Code} {dC : Nat → ClassId} {dI : Nat → Nat → Nat} {A : Nat → Prop} {h : Nat} {ad : Nat → Nat} {cI cZ cJ : ClassId} {res : Int32 × ql_Z} (C0 : ql_C p s m args meth c cX11_walks 11 (some .boolean) wsX11_walks RX11 (dC, dI) [(cI, .int), (cZ, .boolean), (cJ, .long)] A) (N : Nat) : ∀ (z : ql_Z) (x1 : Int32) (x2 : Int32) (x3 : Int64), f_X11_walks_0 N z x1 x2 x3 = some res → ∀ (H : Heap) (locs : List Loc) (ls : Array Slot), va_P (dC, dI) vwCl ((ql_mw h ad cI cZ cJ) z) H → va_D A ((ql_mw h ad cI cZ cJ) z) → va_S A s.heap H locs → lv_has ls 11 [(0, .ref h), (1, .int x1), (2, .int x2), (3, .long x3)] → W p l e rm_X11_walks s m args below meth c H locs 0 0 (ql_Qi below (dC, dI) (ql_mw h ad cI cZ cJ) A args s res) (F0 m 0 ls []) := by
  have C0q := C0
  obtain ⟨hx, hb, hr, hml, hown, hts, hlocks, hK, hA⟩ := C0q
  have fl267 := hts (Cond.constantLong RX11 267 (12)) (by decide +kernel)
  intro z x1 x2 x3 hf H locs ls hP hD hS hl
  unfold f_X11_walks_0 at hf
  refine lv_iload_n hx hb dX11_walks_0 rfl (lv_at hl 1 rfl) ?_
  obtain ⟨u9, hu9, hf⟩ := ql_bd hf
  refine ql_callRSi (As := [.int x1]) (rest := []) C0 (c_X11_isProgram l dC dI N x1 u9 hu9) (va_cwS 1 hts gX11_walks_X11_isProgram rfl rfl rfl qd_X11_isProgram ⟨Nat.le_of_ble_eq_true rfl, Nat.le_of_ble_eq_true rfl⟩) (hK.sub [] rfl) ql_nil hS hl.1 rfl rfl (Nat.le_of_ble_eq_true rfl) dX11_walks_1 (fun H1 locs hk hS => ?_)
  have hP := ql_keep hP hk
  refine lv_if_eq (tgt := 19) hx hb dX11_walks_4 (by decide) (fun c10 => ?_) (fun c10 => ?_)
  · have hf := (if_pos c10).symm.trans hf
    refine lv_iconst (v := 0) hx hb dX11_walks_19 (by decide) ?_
    exact ql_zret C0 (Or.inl rfl) hf hP hD hS dX11_walks_20
  · have hf := (if_neg c10).symm.trans hf
    refine lv_iload_n hx hb dX11_walks_7 rfl (lv_at hl 2 rfl) ?_
    refine lv_i2l hx hb dX11_walks_8 rfl ?_
    refine lv_lconst (v := 0) hx hb dX11_walks_9 (by decide) ?_
    refine lv_ldc2 hx hb hown fl267 dX11_walks_10 ?_
    obtain ⟨u11, hu11, hf⟩ := ql_bd hf
    refine ql_callRSi (As := [.long x2.toInt64, .long 0, .long 12]) (rest := []) C0 (c_X11_in l dC dI N x2.toInt64 0 12 u11 hu11) (va_cwS 3 hts gX11_walks_X11_in rfl rfl rfl qd_X11_in ⟨Nat.le_of_ble_eq_true rfl, Nat.le_of_ble_eq_true rfl⟩) (hK.sub [] rfl) ql_nil hS hl.1 rfl rfl (Nat.le_of_ble_eq_true rfl) dX11_walks_13 (fun H1 locs hk hS => ?_)
    have hP := ql_keep hP hk
    refine lv_if_ne (tgt := 21) hx hb dX11_walks_16 (by decide) (fun c12 => ?_) (fun c12 => ?_)
    · have hf := (if_neg c12).symm.trans hf
      refine lv_lconst (v := 1) hx hb dX11_walks_21 (by decide) ?_
      refine lv_lstore (lv' := [(5, .long 1), (0, .ref h), (1, .int x1), (2, .int x2), (3, .long x3)]) hx hb dX11_walks_22 hl (by decide) rfl (fun ls hl => ?_)
      refine lv_iconst (v := 0) hx hb dX11_walks_24 (by decide) ?_
      refine lv_istore (lv' := [(7, .int 0), (5, .long 1), (0, .ref h), (1, .int x1), (2, .int x2), (3, .long x3)]) hx hb dX11_walks_25 hl (by decide) rfl (fun ls hl => ?_)
      exact w_X11_walks_27 C0 N N _ _ _ _ _ _ hf _ _ _ hP hD hS (lv_sub hl [2, 3, 4, 5, 1, 0] rfl)
    · have hf := (if_pos c12).symm.trans hf
      refine lv_iconst (v := 0) hx hb dX11_walks_19 (by decide) ?_
      exact ql_zret C0 (Or.inl rfl) hf hP hD hS dX11_walks_20
set_option maxRecDepth 100000 in
theorem c_X11_walks (l : Launch) (dC : Nat → ClassId) (dI : Nat → Nat → Nat) (h : Nat) (ad : Nat → Nat) (cI cZ cJ : ClassId) (N : Nat) (z : ql_Z) (x1 : Int32) (x2 : Int32) (x3 : Int64) (res : Int32 × ql_Z) (hf : f_X11_walks N z x1 x2 x3 = some res) : ql_Mi l yX11_walks wsX11_walks rm_X11_walks (dC, dI) [(cI, .int), (cZ, .boolean), (cJ, .long)] (ql_mw h ad cI cZ cJ) [.ref h, .int x1, .int x2, .long x3] z res :=
  ql_start_i (by decide) rfl (Nat.le_of_ble_eq_true rfl) (fun p e s m below meth c A ls C0 hl hP hD hS => w_X11_walks_0 C0 N z x1 x2 x3 hf s.heap [] ls hP hD hS (lv_sub (show lv_has ls 11 [(0, .ref h), (1, .int x1), (2, .int x2), (3, .long x3)] from hl) [0, 1, 2, 3] rfl))
/-! ===== TestedLoopsModel.lets(IIJ)I ===== -/
abbrev rm_X11_lets : Room := { frames := 3, cells := 0, slots := 0, locals := 75 }
theorem iw_X11_lets_X11 : ∀ w ∈ wsX110, w ∈ wsX11_lets := fun w h => List.mem_cons_of_mem _ (List.mem_append_right _ h)
theorem qv_X11_lets : yX11_lets.cls = RX11 ∧ yX11_lets.cls ≠ "java/lang/invoke/MethodHandle" ∧ yX11_lets.cls ≠ "java/lang/invoke/VarHandle" ∧ (parseMethodDescriptor yX11_lets.desc).map (fun d => d.parameters.length) = some 3 := by decide +kernel
def f_X11_lets_0 (N : Nat) (z : ql_Z) (x1 : Int32) (x2 : Int32) (x3 : Int64) : Option (Int32 × ql_Z) := (f_X11_walks N z x1 x2 x3).bind fun u1 => if u1.1 = 0 then some ((-1), u1.2) else if (u1.2.1 39 0) = x2 then if (u1.2.1 40 0) = 0 then some (1, u1.2) else some (0, u1.2) else some (0, u1.2)
def f_X11_lets (N : Nat) (z : ql_Z) (x1 : Int32) (x2 : Int32) (x3 : Int64) : Option (Int32 × ql_Z) := f_X11_lets_0 N z x1 x2 x3
set_option maxHeartbeats 4000000 in
set_option maxRecDepth 100000 in
theorem w_X11_lets_0 {p : Program} {l : Launch} {e : Env} {s : State} {m : MethodId} {args : Array Value} {below : List Frame} {meth : Method} {c : Code} {dC : Nat → ClassId} {dI : Nat → Nat → Nat} {A : Nat → Prop} {h : Nat} {ad : Nat → Nat} {cI cZ cJ : ClassId} {res : Int32 × ql_Z} (C0 : ql_C p s m args meth c cX11_lets 5 (some .int) wsX11_lets RX11 (dC, dI) [(cI, .int), (cZ, .boolean), (cJ, .long)] A) (N : Nat) : ∀ (z : ql_Z) (x1 : Int32) (x2 : Int32) (x3 : Int64), f_X11_lets_0 N z x1 x2 x3 = some res → ∀ (H : Heap) (locs : List Loc) (ls : Array Slot), va_P (dC, dI) vwCl ((ql_mw h ad cI cZ cJ) z) H → va_D A ((ql_mw h ad cI cZ cJ) z) → va_S A s.heap H locs → lv_has ls 5 [(0, .ref h), (1, .int x1), (2, .int x2), (3, .long x3)] → W p l e rm_X11_lets s m args below meth c H locs 0 0 (ql_Qi below (dC, dI) (ql_mw h ad cI cZ cJ) A args s res) (F0 m 0 ls []) := by
  have C0q := C0
  obtain ⟨hx, hb, hr, hml, hown, hts, hlocks, hK, hA⟩ := C0q
  have fl298 := hts (Cond.fieldLink RX11 298 "TestedLoopsModel" "walked" "I") (by decide +kernel)
  have fl301 := hts (Cond.fieldLink RX11 301 "TestedLoopsModel" "where" "I") (by decide +kernel)
  intro z x1 x2 x3 hf H locs ls hP hD hS hl
  unfold f_X11_lets_0 at hf
  refine lv_aload_n hx hb dX11_lets_0 rfl (lv_at hl 0 rfl) ?_
  refine lv_iload_n hx hb dX11_lets_1 rfl (lv_at hl 1 rfl) ?_
  refine lv_iload_n hx hb dX11_lets_2 rfl (lv_at hl 2 rfl) ?_
  refine lv_lload_n hx hb dX11_lets_3 rfl (lv_at hl 3 rfl) ?_
  obtain ⟨u1, hu1, hf⟩ := ql_bd hf
  refine ql_callVi (As := [.int x1, .int x2, .long x3]) (rest := []) C0 (c_X11_walks l dC dI h ad cI cZ cJ N z x1 x2 x3 u1 hu1) (cwV 3 hts gX11_lets_X11_walks rfl rfl rfl qv_X11_walks ⟨Nat.le_of_ble_eq_true rfl, Nat.le_of_ble_eq_true rfl⟩) (va_recv hK.1 hP (ci := 11) (q0 := 0) rfl rfl) hP hD hS hl.1 rfl rfl (Nat.le_of_ble_eq_true rfl) dX11_lets_4 (fun H locs hP hD hS => ?_)
  refine lv_if_ne (tgt := 14) hx hb dX11_lets_7 (by decide) (fun c2 => ?_) (fun c2 => ?_)
  · have hf := (if_neg c2).symm.trans hf
    refine lv_aload_n hx hb dX11_lets_14 rfl (lv_at hl 0 rfl) ?_
    refine va_get (D := (dC, dI)) (ci := 11) (v := .int (u1.2.1 39 0)) (C := RX11) (T := TX11) (N := 41) hx hb hts iw_X11_lets_X11 hown hK.1 hP 0 rfl rfl 39 (by decide) fl298 (fun _ h9 => h9) rfl dX11_lets_15 ?_
    refine lv_iload_n hx hb dX11_lets_18 rfl (lv_at hl 2 rfl) ?_
    refine lv_icmp_ne (tgt := 33) hx hb dX11_lets_19 (by decide) (fun c3 => ?_) (fun c3 => ?_)
    · have hf := (if_neg c3).symm.trans hf
      refine lv_iconst (v := 0) hx hb dX11_lets_33 (by decide) ?_
      exact ql_iret C0 hf hP hD hS dX11_lets_34
    · have hf := (if_pos c3).symm.trans hf
      refine lv_aload_n hx hb dX11_lets_22 rfl (lv_at hl 0 rfl) ?_
      refine va_get (D := (dC, dI)) (ci := 11) (v := .int (u1.2.1 40 0)) (C := RX11) (T := TX11) (N := 41) hx hb hts iw_X11_lets_X11 hown hK.1 hP 0 rfl rfl 40 (by decide) fl301 (fun _ h9 => h9) rfl dX11_lets_23 ?_
      refine lv_if_ne (tgt := 33) hx hb dX11_lets_26 (by decide) (fun c4 => ?_) (fun c4 => ?_)
      · have hf := (if_neg c4).symm.trans hf
        refine lv_iconst (v := 0) hx hb dX11_lets_33 (by decide) ?_
        exact ql_iret C0 hf hP hD hS dX11_lets_34
      · have hf := (if_pos c4).symm.trans hf
        refine lv_iconst (v := 1) hx hb dX11_lets_29 (by decide) ?_
        refine lv_goto (tgt := 34) hx hb dX11_lets_30 (by decide) ?_
        exact ql_iret C0 hf hP hD hS dX11_lets_34
  · have hf := (if_pos c2).symm.trans hf
    refine lv_iconst (v := (-1)) hx hb dX11_lets_10 (by decide) ?_
    refine lv_goto (tgt := 34) hx hb dX11_lets_11 (by decide) ?_
    exact ql_iret C0 hf hP hD hS dX11_lets_34
set_option maxRecDepth 100000 in
theorem c_X11_lets (l : Launch) (dC : Nat → ClassId) (dI : Nat → Nat → Nat) (h : Nat) (ad : Nat → Nat) (cI cZ cJ : ClassId) (N : Nat) (z : ql_Z) (x1 : Int32) (x2 : Int32) (x3 : Int64) (res : Int32 × ql_Z) (hf : f_X11_lets N z x1 x2 x3 = some res) : ql_Mi l yX11_lets wsX11_lets rm_X11_lets (dC, dI) [(cI, .int), (cZ, .boolean), (cJ, .long)] (ql_mw h ad cI cZ cJ) [.ref h, .int x1, .int x2, .long x3] z res :=
  ql_start_i (by decide) rfl (Nat.le_of_ble_eq_true rfl) (fun p e s m below meth c A ls C0 hl hP hD hS => w_X11_lets_0 C0 N z x1 x2 x3 hf s.heap [] ls hP hD hS (lv_sub (show lv_has ls 5 [(0, .ref h), (1, .int x1), (2, .int x2), (3, .long x3)] from hl) [0, 1, 2, 3] rfl))
/-! ===== TestedLoopsModel.walk(IIJI)I ===== -/
abbrev rm_X11_walk : Room := { frames := 3, cells := 0, slots := 0, locals := 75 }
theorem iw_X11_walk_X11 : ∀ w ∈ wsX110, w ∈ wsX11_walk := fun w h => List.mem_cons_of_mem _ (List.mem_append_right _ h)
theorem qv_X11_walk : yX11_walk.cls = RX11 ∧ yX11_walk.cls ≠ "java/lang/invoke/MethodHandle" ∧ yX11_walk.cls ≠ "java/lang/invoke/VarHandle" ∧ (parseMethodDescriptor yX11_walk.desc).map (fun d => d.parameters.length) = some 4 := by decide +kernel
def f_X11_walk_0 (N : Nat) (z : ql_Z) (x1 : Int32) (x2 : Int32) (x3 : Int64) (x5 : Int32) : Option (Int32 × ql_Z) := (f_X11_in N x5.toInt64 0 1).bind fun u1 => if u1 = 0 then some ((-1), z) else (f_X11_walks N z x1 x2 x3).bind fun u3 => if u3.1 = 0 then some ((-1), u3.2) else if x5 = 0 then some ((u3.2.1 39 0), u3.2) else if 0 ≤ (u3.2.1 40 0) then some ((u3.2.1 40 0), u3.2) else some ((-9), u3.2)
def f_X11_walk (N : Nat) (z : ql_Z) (x1 : Int32) (x2 : Int32) (x3 : Int64) (x5 : Int32) : Option (Int32 × ql_Z) := f_X11_walk_0 N z x1 x2 x3 x5
set_option maxHeartbeats 4000000 in
set_option maxRecDepth 100000 in
theorem w_X11_walk_0 {p : Program} {l : Launch} {e : Env} {s : State} {m : MethodId} {args : Array Value} {below : List Frame} {meth : Method} {c : Code} {dC : Nat → ClassId} {dI : Nat → Nat → Nat} {A : Nat → Prop} {h : Nat} {ad : Nat → Nat} {cI cZ cJ : ClassId} {res : Int32 × ql_Z} (C0 : ql_C p s m args meth c cX11_walk 6 (some .int) wsX11_walk RX11 (dC, dI) [(cI, .int), (cZ, .boolean), (cJ, .long)] A) (N : Nat) : ∀ (z : ql_Z) (x1 : Int32) (x2 : Int32) (x3 : Int64) (x5 : Int32), f_X11_walk_0 N z x1 x2 x3 x5 = some res → ∀ (H : Heap) (locs : List Loc) (ls : Array Slot), va_P (dC, dI) vwCl ((ql_mw h ad cI cZ cJ) z) H → va_D A ((ql_mw h ad cI cZ cJ) z) → va_S A s.heap H locs → lv_has ls 6 [(0, .ref h), (1, .int x1), (2, .int x2), (3, .long x3), (5, .int x5)] → W p l e rm_X11_walk s m args below meth c H locs 0 0 (ql_Qi below (dC, dI) (ql_mw h ad cI cZ cJ) A args s res) (F0 m 0 ls []) := by
  have C0q := C0
  obtain ⟨hx, hb, hr, hml, hown, hts, hlocks, hK, hA⟩ := C0q
  have fl301 := hts (Cond.fieldLink RX11 301 "TestedLoopsModel" "where" "I") (by decide +kernel)
  have fl298 := hts (Cond.fieldLink RX11 298 "TestedLoopsModel" "walked" "I") (by decide +kernel)
  intro z x1 x2 x3 x5 hf H locs ls hP hD hS hl
  unfold f_X11_walk_0 at hf
  refine lv_iload hx hb dX11_walk_0 (lv_at hl 4 rfl) ?_
  refine lv_i2l hx hb dX11_walk_2 rfl ?_
  refine lv_lconst (v := 0) hx hb dX11_walk_3 (by decide) ?_
  refine lv_lconst (v := 1) hx hb dX11_walk_4 (by decide) ?_
  obtain ⟨u1, hu1, hf⟩ := ql_bd hf
  refine ql_callRSi (As := [.long x5.toInt64, .long 0, .long 1]) (rest := []) C0 (c_X11_in l dC dI N x5.toInt64 0 1 u1 hu1) (va_cwS 3 hts gX11_walk_X11_in rfl rfl rfl qd_X11_in ⟨Nat.le_of_ble_eq_true rfl, Nat.le_of_ble_eq_true rfl⟩) (hK.sub [] rfl) ql_nil hS hl.1 rfl rfl (Nat.le_of_ble_eq_true rfl) dX11_walk_5 (fun H1 locs hk hS => ?_)
  have hP := ql_keep hP hk
  refine lv_if_eq (tgt := 21) hx hb dX11_walk_8 (by decide) (fun c2 => ?_) (fun c2 => ?_)
  · have hf := (if_pos c2).symm.trans hf
    refine lv_iconst (v := (-1)) hx hb dX11_walk_21 (by decide) ?_
    exact ql_iret C0 hf hP hD hS dX11_walk_22
  · have hf := (if_neg c2).symm.trans hf
    refine lv_aload_n hx hb dX11_walk_11 rfl (lv_at hl 0 rfl) ?_
    refine lv_iload_n hx hb dX11_walk_12 rfl (lv_at hl 1 rfl) ?_
    refine lv_iload_n hx hb dX11_walk_13 rfl (lv_at hl 2 rfl) ?_
    refine lv_lload_n hx hb dX11_walk_14 rfl (lv_at hl 3 rfl) ?_
    obtain ⟨u3, hu3, hf⟩ := ql_bd hf
    refine ql_callVi (As := [.int x1, .int x2, .long x3]) (rest := []) C0 (c_X11_walks l dC dI h ad cI cZ cJ N z x1 x2 x3 u3 hu3) (cwV 3 hts gX11_walk_X11_walks rfl rfl rfl qv_X11_walks ⟨Nat.le_of_ble_eq_true rfl, Nat.le_of_ble_eq_true rfl⟩) (va_recv hK.1 hP (ci := 11) (q0 := 0) rfl rfl) hP hD hS hl.1 rfl rfl (Nat.le_of_ble_eq_true rfl) dX11_walk_15 (fun H locs hP hD hS => ?_)
    refine lv_if_ne (tgt := 23) hx hb dX11_walk_18 (by decide) (fun c4 => ?_) (fun c4 => ?_)
    · have hf := (if_neg c4).symm.trans hf
      refine lv_iload hx hb dX11_walk_23 (lv_at hl 4 rfl) ?_
      refine lv_if_ne (tgt := 35) hx hb dX11_walk_25 (by decide) (fun c5 => ?_) (fun c5 => ?_)
      · have hf := (if_neg c5).symm.trans hf
        refine lv_aload_n hx hb dX11_walk_35 rfl (lv_at hl 0 rfl) ?_
        refine va_get (D := (dC, dI)) (ci := 11) (v := .int (u3.2.1 40 0)) (C := RX11) (T := TX11) (N := 41) hx hb hts iw_X11_walk_X11 hown hK.1 hP 0 rfl rfl 40 (by decide) fl301 (fun _ h9 => h9) rfl dX11_walk_36 ?_
        refine lv_if_ge (tgt := 47) hx hb dX11_walk_39 (by decide) (fun c6 => ?_) (fun c6 => ?_)
        · have hf := (if_pos c6).symm.trans hf
          refine lv_aload_n hx hb dX11_walk_47 rfl (lv_at hl 0 rfl) ?_
          refine va_get (D := (dC, dI)) (ci := 11) (v := .int (u3.2.1 40 0)) (C := RX11) (T := TX11) (N := 41) hx hb hts iw_X11_walk_X11 hown hK.1 hP 0 rfl rfl 40 (by decide) fl301 (fun _ h9 => h9) rfl dX11_walk_48 ?_
          exact ql_iret C0 hf hP hD hS dX11_walk_51
        · have hf := (if_neg c6).symm.trans hf
          refine lv_bipush (v := (-9)) hx hb dX11_walk_42 (by decide) ?_
          refine lv_goto (tgt := 51) hx hb dX11_walk_44 (by decide) ?_
          exact ql_iret C0 hf hP hD hS dX11_walk_51
      · have hf := (if_pos c5).symm.trans hf
        refine lv_aload_n hx hb dX11_walk_28 rfl (lv_at hl 0 rfl) ?_
        refine va_get (D := (dC, dI)) (ci := 11) (v := .int (u3.2.1 39 0)) (C := RX11) (T := TX11) (N := 41) hx hb hts iw_X11_walk_X11 hown hK.1 hP 0 rfl rfl 39 (by decide) fl298 (fun _ h9 => h9) rfl dX11_walk_29 ?_
        refine lv_goto (tgt := 51) hx hb dX11_walk_32 (by decide) ?_
        exact ql_iret C0 hf hP hD hS dX11_walk_51
    · have hf := (if_pos c4).symm.trans hf
      refine lv_iconst (v := (-1)) hx hb dX11_walk_21 (by decide) ?_
      exact ql_iret C0 hf hP hD hS dX11_walk_22
set_option maxRecDepth 100000 in
theorem c_X11_walk (l : Launch) (dC : Nat → ClassId) (dI : Nat → Nat → Nat) (h : Nat) (ad : Nat → Nat) (cI cZ cJ : ClassId) (N : Nat) (z : ql_Z) (x1 : Int32) (x2 : Int32) (x3 : Int64) (x5 : Int32) (res : Int32 × ql_Z) (hf : f_X11_walk N z x1 x2 x3 x5 = some res) : ql_Mi l yX11_walk wsX11_walk rm_X11_walk (dC, dI) [(cI, .int), (cZ, .boolean), (cJ, .long)] (ql_mw h ad cI cZ cJ) [.ref h, .int x1, .int x2, .long x3, .int x5] z res :=
  ql_start_i (by decide) rfl (Nat.le_of_ble_eq_true rfl) (fun p e s m below meth c A ls C0 hl hP hD hS => w_X11_walk_0 C0 N z x1 x2 x3 x5 hf s.heap [] ls hP hD hS (lv_sub (show lv_has ls 6 [(0, .ref h), (1, .int x1), (2, .int x2), (3, .long x3), (5, .int x5)] from hl) [0, 1, 2, 3, 4] rfl))
/-! ===== TestedLoopsModel.says(I)I ===== -/
abbrev rm_X11_says : Room := { frames := 0, cells := 0, slots := 0, locals := 0 }
theorem iw_X11_says_X11 : ∀ w ∈ wsX110, w ∈ wsX11_says := fun w h => List.mem_cons_of_mem _ (List.mem_append_right _ h)
theorem qv_X11_says : yX11_says.cls = RX11 ∧ yX11_says.cls ≠ "java/lang/invoke/MethodHandle" ∧ yX11_says.cls ≠ "java/lang/invoke/VarHandle" ∧ (parseMethodDescriptor yX11_says.desc).map (fun d => d.parameters.length) = some 1 := by decide +kernel
def f_X11_says_0 (N : Nat) (z : ql_Z) (x1 : Int32) : Option (Int32 × ql_Z) := some (0, (z.1, (ql_uq z.2 0 (fun _ => ((z.2 0 0) + x1.toInt64)))))
def f_X11_says (N : Nat) (z : ql_Z) (x1 : Int32) : Option (Int32 × ql_Z) := f_X11_says_0 N z x1
set_option maxHeartbeats 4000000 in
set_option maxRecDepth 100000 in
theorem w_X11_says_0 {p : Program} {l : Launch} {e : Env} {s : State} {m : MethodId} {args : Array Value} {below : List Frame} {meth : Method} {c : Code} {dC : Nat → ClassId} {dI : Nat → Nat → Nat} {A : Nat → Prop} {h : Nat} {ad : Nat → Nat} {cI cZ cJ : ClassId} {res : Int32 × ql_Z} (C0 : ql_C p s m args meth c cX11_says 2 (some .int) wsX11_says RX11 (dC, dI) [(cI, .int), (cZ, .boolean), (cJ, .long)] A) (N : Nat) : ∀ (z : ql_Z) (x1 : Int32), f_X11_says_0 N z x1 = some res → ∀ (H : Heap) (locs : List Loc) (ls : Array Slot), va_P (dC, dI) vwCl ((ql_mw h ad cI cZ cJ) z) H → va_D A ((ql_mw h ad cI cZ cJ) z) → va_S A s.heap H locs → lv_has ls 2 [(0, .ref h), (1, .int x1)] → W p l e rm_X11_says s m args below meth c H locs 0 0 (ql_Qi below (dC, dI) (ql_mw h ad cI cZ cJ) A args s res) (F0 m 0 ls []) := by
  have C0q := C0
  obtain ⟨hx, hb, hr, hml, hown, hts, hlocks, hK, hA⟩ := C0q
  have fl308 := hts (Cond.fieldLink RX11 308 "TestedLoopsModel" "trace" "J") (by decide +kernel)
  intro z x1 hf H locs ls hP hD hS hl
  unfold f_X11_says_0 at hf
  refine lv_aload_n hx hb dX11_says_0 rfl (lv_at hl 0 rfl) ?_
  refine lv_dup hx hb dX11_says_1 rfl ?_
  refine va_get (D := (dC, dI)) (ci := 11) (v := .long (z.2 0 0)) (C := RX11) (T := TX11) (N := 41) hx hb hts iw_X11_says_X11 hown hK.1 hP 0 rfl rfl 0 (by decide) fl308 (fun _ h9 => h9) rfl dX11_says_2 ?_
  refine lv_iload_n hx hb dX11_says_5 rfl (lv_at hl 1 rfl) ?_
  refine lv_i2l hx hb dX11_says_6 rfl ?_
  refine lv_ladd hx hb dX11_says_7 ?_
  refine va_put (D := (dC, dI)) (ci := 11) (v := .long ((z.2 0 0) + x1.toInt64)) (ty := .long) (C := RX11) (T := TX11) (N := 41) hx hb hts iw_X11_says_X11 tyX11 tyX11_ok nmX11 hown hK.1 hP hD hS 0 rfl rfl 0 (by decide) fl308 (fun _ h9 => h9) rfl (by decide +kernel) rfl rfl (Nat.le_of_ble_eq_true rfl) dX11_says_8 (fun H locs hP hD hS => ?_)
  refine lv_iconst (v := 0) hx hb dX11_says_11 (by decide) ?_
  exact ql_iret C0 hf hP hD hS dX11_says_12
set_option maxRecDepth 100000 in
theorem c_X11_says (l : Launch) (dC : Nat → ClassId) (dI : Nat → Nat → Nat) (h : Nat) (ad : Nat → Nat) (cI cZ cJ : ClassId) (N : Nat) (z : ql_Z) (x1 : Int32) (res : Int32 × ql_Z) (hf : f_X11_says N z x1 = some res) : ql_Mi l yX11_says wsX11_says rm_X11_says (dC, dI) [(cI, .int), (cZ, .boolean), (cJ, .long)] (ql_mw h ad cI cZ cJ) [.ref h, .int x1] z res :=
  ql_start_i (by decide) rfl (Nat.le_of_ble_eq_true rfl) (fun p e s m below meth c A ls C0 hl hP hD hS => w_X11_says_0 C0 N z x1 hf s.heap [] ls hP hD hS (lv_sub (show lv_has ls 2 [(0, .ref h), (1, .int x1)] from hl) [0, 1] rfl))
/-! ===== TestedLoopsModel.part()I ===== -/
abbrev rm_X11_part : Room := { frames := 1, cells := 0, slots := 0, locals := 21 }
theorem iw_X11_part_X11 : ∀ w ∈ wsX110, w ∈ wsX11_part := fun w h => List.mem_cons_of_mem _ (List.mem_append_right _ h)
theorem qv_X11_part : yX11_part.cls = RX11 ∧ yX11_part.cls ≠ "java/lang/invoke/MethodHandle" ∧ yX11_part.cls ≠ "java/lang/invoke/VarHandle" ∧ (parseMethodDescriptor yX11_part.desc).map (fun d => d.parameters.length) = some 0 := by decide +kernel
def f_X11_part_0 (N : Nat) (z : ql_Z) : Option (Int32 × ql_Z) := (f_X11_says N z 1).bind fun u1 => some ((u1.1 + 1), u1.2)
def f_X11_part (N : Nat) (z : ql_Z) : Option (Int32 × ql_Z) := f_X11_part_0 N z
set_option maxHeartbeats 4000000 in
set_option maxRecDepth 100000 in
theorem w_X11_part_0 {p : Program} {l : Launch} {e : Env} {s : State} {m : MethodId} {args : Array Value} {below : List Frame} {meth : Method} {c : Code} {dC : Nat → ClassId} {dI : Nat → Nat → Nat} {A : Nat → Prop} {h : Nat} {ad : Nat → Nat} {cI cZ cJ : ClassId} {res : Int32 × ql_Z} (C0 : ql_C p s m args meth c cX11_part 1 (some .int) wsX11_part RX11 (dC, dI) [(cI, .int), (cZ, .boolean), (cJ, .long)] A) (N : Nat) : ∀ (z : ql_Z), f_X11_part_0 N z = some res → ∀ (H : Heap) (locs : List Loc) (ls : Array Slot), va_P (dC, dI) vwCl ((ql_mw h ad cI cZ cJ) z) H → va_D A ((ql_mw h ad cI cZ cJ) z) → va_S A s.heap H locs → lv_has ls 1 [(0, .ref h)] → W p l e rm_X11_part s m args below meth c H locs 0 0 (ql_Qi below (dC, dI) (ql_mw h ad cI cZ cJ) A args s res) (F0 m 0 ls []) := by
  have C0q := C0
  obtain ⟨hx, hb, hr, hml, hown, hts, hlocks, hK, hA⟩ := C0q
  intro z hf H locs ls hP hD hS hl
  unfold f_X11_part_0 at hf
  refine lv_aload_n hx hb dX11_part_0 rfl (lv_at hl 0 rfl) ?_
  refine lv_iconst (v := 1) hx hb dX11_part_1 (by decide) ?_
  obtain ⟨u1, hu1, hf⟩ := ql_bd hf
  refine ql_callVi (As := [.int 1]) (rest := []) C0 (c_X11_says l dC dI h ad cI cZ cJ N z 1 u1 hu1) (cwV 1 hts gX11_part_X11_says rfl rfl rfl qv_X11_says ⟨Nat.le_of_ble_eq_true rfl, Nat.le_of_ble_eq_true rfl⟩) (va_recv hK.1 hP (ci := 11) (q0 := 0) rfl rfl) hP hD hS hl.1 rfl rfl (Nat.le_of_ble_eq_true rfl) dX11_part_2 (fun H locs hP hD hS => ?_)
  refine lv_iconst (v := 1) hx hb dX11_part_5 (by decide) ?_
  refine lv_iadd hx hb dX11_part_6 ?_
  exact ql_iret C0 hf hP hD hS dX11_part_7
set_option maxRecDepth 100000 in
theorem c_X11_part (l : Launch) (dC : Nat → ClassId) (dI : Nat → Nat → Nat) (h : Nat) (ad : Nat → Nat) (cI cZ cJ : ClassId) (N : Nat) (z : ql_Z) (res : Int32 × ql_Z) (hf : f_X11_part N z = some res) : ql_Mi l yX11_part wsX11_part rm_X11_part (dC, dI) [(cI, .int), (cZ, .boolean), (cJ, .long)] (ql_mw h ad cI cZ cJ) [.ref h] z res :=
  ql_start_i (by decide) rfl (Nat.le_of_ble_eq_true rfl) (fun p e s m below meth c A ls C0 hl hP hD hS => w_X11_part_0 C0 N z hf s.heap [] ls hP hD hS (lv_sub (show lv_has ls 1 [(0, .ref h)] from hl) [0] rfl))
/-! ===== TestedLoopsModel.choice(I)I ===== -/
abbrev rm_X11_choice : Room := { frames := 2, cells := 0, slots := 0, locals := 41 }
theorem iw_X11_choice_X11 : ∀ w ∈ wsX110, w ∈ wsX11_choice := fun w h => List.mem_cons_of_mem _ (List.mem_append_right _ h)
theorem qv_X11_choice : yX11_choice.cls = RX11 ∧ yX11_choice.cls ≠ "java/lang/invoke/MethodHandle" ∧ yX11_choice.cls ≠ "java/lang/invoke/VarHandle" ∧ (parseMethodDescriptor yX11_choice.desc).map (fun d => d.parameters.length) = some 1 := by decide +kernel
def f_X11_choice_0 (N : Nat) (z : ql_Z) (x1 : Int32) : Option (Int32 × ql_Z) := (f_X11_says N z 100).bind fun u1 => (f_X11_part N u1.2).bind fun u2 => some (((u1.1 + u2.1) + x1), u2.2)
def f_X11_choice (N : Nat) (z : ql_Z) (x1 : Int32) : Option (Int32 × ql_Z) := f_X11_choice_0 N z x1
set_option maxHeartbeats 4000000 in
set_option maxRecDepth 100000 in
theorem w_X11_choice_0 {p : Program} {l : Launch} {e : Env} {s : State} {m : MethodId} {args : Array Value} {below : List Frame} {meth : Method} {c : Code} {dC : Nat → ClassId} {dI : Nat → Nat → Nat} {A : Nat → Prop} {h : Nat} {ad : Nat → Nat} {cI cZ cJ : ClassId} {res : Int32 × ql_Z} (C0 : ql_C p s m args meth c cX11_choice 2 (some .int) wsX11_choice RX11 (dC, dI) [(cI, .int), (cZ, .boolean), (cJ, .long)] A) (N : Nat) : ∀ (z : ql_Z) (x1 : Int32), f_X11_choice_0 N z x1 = some res → ∀ (H : Heap) (locs : List Loc) (ls : Array Slot), va_P (dC, dI) vwCl ((ql_mw h ad cI cZ cJ) z) H → va_D A ((ql_mw h ad cI cZ cJ) z) → va_S A s.heap H locs → lv_has ls 2 [(0, .ref h), (1, .int x1)] → W p l e rm_X11_choice s m args below meth c H locs 0 0 (ql_Qi below (dC, dI) (ql_mw h ad cI cZ cJ) A args s res) (F0 m 0 ls []) := by
  have C0q := C0
  obtain ⟨hx, hb, hr, hml, hown, hts, hlocks, hK, hA⟩ := C0q
  intro z x1 hf H locs ls hP hD hS hl
  unfold f_X11_choice_0 at hf
  refine lv_aload_n hx hb dX11_choice_0 rfl (lv_at hl 0 rfl) ?_
  refine lv_bipush (v := 100) hx hb dX11_choice_1 (by decide) ?_
  obtain ⟨u1, hu1, hf⟩ := ql_bd hf
  refine ql_callVi (As := [.int 100]) (rest := []) C0 (c_X11_says l dC dI h ad cI cZ cJ N z 100 u1 hu1) (cwV 1 hts gX11_choice_X11_says rfl rfl rfl qv_X11_says ⟨Nat.le_of_ble_eq_true rfl, Nat.le_of_ble_eq_true rfl⟩) (va_recv hK.1 hP (ci := 11) (q0 := 0) rfl rfl) hP hD hS hl.1 rfl rfl (Nat.le_of_ble_eq_true rfl) dX11_choice_3 (fun H locs hP hD hS => ?_)
  refine lv_aload_n hx hb dX11_choice_6 rfl (lv_at hl 0 rfl) ?_
  obtain ⟨u2, hu2, hf⟩ := ql_bd hf
  refine ql_callVi (As := []) (rest := [.int u1.1]) C0 (c_X11_part l dC dI h ad cI cZ cJ N u1.2 u2 hu2) (cwV 0 hts gX11_choice_X11_part rfl rfl rfl qv_X11_part ⟨Nat.le_of_ble_eq_true rfl, Nat.le_of_ble_eq_true rfl⟩) (va_recv hK.1 hP (ci := 11) (q0 := 0) rfl rfl) hP hD hS hl.1 rfl rfl (Nat.le_of_ble_eq_true rfl) dX11_choice_7 (fun H locs hP hD hS => ?_)
  refine lv_iadd hx hb dX11_choice_10 ?_
  refine lv_iload_n hx hb dX11_choice_11 rfl (lv_at hl 1 rfl) ?_
  refine lv_iadd hx hb dX11_choice_12 ?_
  exact ql_iret C0 hf hP hD hS dX11_choice_13
set_option maxRecDepth 100000 in
theorem c_X11_choice (l : Launch) (dC : Nat → ClassId) (dI : Nat → Nat → Nat) (h : Nat) (ad : Nat → Nat) (cI cZ cJ : ClassId) (N : Nat) (z : ql_Z) (x1 : Int32) (res : Int32 × ql_Z) (hf : f_X11_choice N z x1 = some res) : ql_Mi l yX11_choice wsX11_choice rm_X11_choice (dC, dI) [(cI, .int), (cZ, .boolean), (cJ, .long)] (ql_mw h ad cI cZ cJ) [.ref h, .int x1] z res :=
  ql_start_i (by decide) rfl (Nat.le_of_ble_eq_true rfl) (fun p e s m below meth c A ls C0 hl hP hD hS => w_X11_choice_0 C0 N z x1 hf s.heap [] ls hP hD hS (lv_sub (show lv_has ls 2 [(0, .ref h), (1, .int x1)] from hl) [0, 1] rfl))
/-! ===== TestedLoopsModel.loop(I)I ===== -/
abbrev rm_X11_loop : Room := { frames := 3, cells := 0, slots := 0, locals := 62 }
theorem iw_X11_loop_X11 : ∀ w ∈ wsX110, w ∈ wsX11_loop := fun w h => List.mem_cons_of_mem _ (List.mem_append_right _ h)
theorem qv_X11_loop : yX11_loop.cls = RX11 ∧ yX11_loop.cls ≠ "java/lang/invoke/MethodHandle" ∧ yX11_loop.cls ≠ "java/lang/invoke/VarHandle" ∧ (parseMethodDescriptor yX11_loop.desc).map (fun d => d.parameters.length) = some 1 := by decide +kernel
def f_X11_loop_0 (N : Nat) (z : ql_Z) (x1 : Int32) : Option (Int32 × ql_Z) := (f_X11_says N z 1000).bind fun u1 => (f_X11_choice N u1.2 x1).bind fun u2 => some ((u1.1 + (2 * u2.1)), u2.2)
def f_X11_loop (N : Nat) (z : ql_Z) (x1 : Int32) : Option (Int32 × ql_Z) := f_X11_loop_0 N z x1
set_option maxHeartbeats 4000000 in
set_option maxRecDepth 100000 in
theorem w_X11_loop_0 {p : Program} {l : Launch} {e : Env} {s : State} {m : MethodId} {args : Array Value} {below : List Frame} {meth : Method} {c : Code} {dC : Nat → ClassId} {dI : Nat → Nat → Nat} {A : Nat → Prop} {h : Nat} {ad : Nat → Nat} {cI cZ cJ : ClassId} {res : Int32 × ql_Z} (C0 : ql_C p s m args meth c cX11_loop 2 (some .int) wsX11_loop RX11 (dC, dI) [(cI, .int), (cZ, .boolean), (cJ, .long)] A) (N : Nat) : ∀ (z : ql_Z) (x1 : Int32), f_X11_loop_0 N z x1 = some res → ∀ (H : Heap) (locs : List Loc) (ls : Array Slot), va_P (dC, dI) vwCl ((ql_mw h ad cI cZ cJ) z) H → va_D A ((ql_mw h ad cI cZ cJ) z) → va_S A s.heap H locs → lv_has ls 2 [(0, .ref h), (1, .int x1)] → W p l e rm_X11_loop s m args below meth c H locs 0 0 (ql_Qi below (dC, dI) (ql_mw h ad cI cZ cJ) A args s res) (F0 m 0 ls []) := by
  have C0q := C0
  obtain ⟨hx, hb, hr, hml, hown, hts, hlocks, hK, hA⟩ := C0q
  intro z x1 hf H locs ls hP hD hS hl
  unfold f_X11_loop_0 at hf
  refine lv_aload_n hx hb dX11_loop_0 rfl (lv_at hl 0 rfl) ?_
  refine lv_sipush (v := 1000) hx hb dX11_loop_1 (by decide) ?_
  obtain ⟨u1, hu1, hf⟩ := ql_bd hf
  refine ql_callVi (As := [.int 1000]) (rest := []) C0 (c_X11_says l dC dI h ad cI cZ cJ N z 1000 u1 hu1) (cwV 1 hts gX11_loop_X11_says rfl rfl rfl qv_X11_says ⟨Nat.le_of_ble_eq_true rfl, Nat.le_of_ble_eq_true rfl⟩) (va_recv hK.1 hP (ci := 11) (q0 := 0) rfl rfl) hP hD hS hl.1 rfl rfl (Nat.le_of_ble_eq_true rfl) dX11_loop_4 (fun H locs hP hD hS => ?_)
  refine lv_iconst (v := 2) hx hb dX11_loop_7 (by decide) ?_
  refine lv_aload_n hx hb dX11_loop_8 rfl (lv_at hl 0 rfl) ?_
  refine lv_iload_n hx hb dX11_loop_9 rfl (lv_at hl 1 rfl) ?_
  obtain ⟨u2, hu2, hf⟩ := ql_bd hf
  refine ql_callVi (As := [.int x1]) (rest := [.int 2, .int u1.1]) C0 (c_X11_choice l dC dI h ad cI cZ cJ N u1.2 x1 u2 hu2) (cwV 1 hts gX11_loop_X11_choice rfl rfl rfl qv_X11_choice ⟨Nat.le_of_ble_eq_true rfl, Nat.le_of_ble_eq_true rfl⟩) (va_recv hK.1 hP (ci := 11) (q0 := 0) rfl rfl) hP hD hS hl.1 rfl rfl (Nat.le_of_ble_eq_true rfl) dX11_loop_10 (fun H locs hP hD hS => ?_)
  refine lv_imul hx hb dX11_loop_13 ?_
  refine lv_iadd hx hb dX11_loop_14 ?_
  exact ql_iret C0 hf hP hD hS dX11_loop_15
set_option maxRecDepth 100000 in
theorem c_X11_loop (l : Launch) (dC : Nat → ClassId) (dI : Nat → Nat → Nat) (h : Nat) (ad : Nat → Nat) (cI cZ cJ : ClassId) (N : Nat) (z : ql_Z) (x1 : Int32) (res : Int32 × ql_Z) (hf : f_X11_loop N z x1 = some res) : ql_Mi l yX11_loop wsX11_loop rm_X11_loop (dC, dI) [(cI, .int), (cZ, .boolean), (cJ, .long)] (ql_mw h ad cI cZ cJ) [.ref h, .int x1] z res :=
  ql_start_i (by decide) rfl (Nat.le_of_ble_eq_true rfl) (fun p e s m below meth c A ls C0 hl hP hD hS => w_X11_loop_0 C0 N z x1 hf s.heap [] ls hP hD hS (lv_sub (show lv_has ls 2 [(0, .ref h), (1, .int x1)] from hl) [0, 1] rfl))
/-! ===== TestedLoopsModel.sizeBy(II)I ===== -/
abbrev rm_X11_sizeBy : Room := { frames := 4, cells := 0, slots := 0, locals := 83 }
theorem iw_X11_sizeBy_X11 : ∀ w ∈ wsX110, w ∈ wsX11_sizeBy := fun w h => List.mem_cons_of_mem _ (List.mem_append_right _ h)
theorem qv_X11_sizeBy : yX11_sizeBy.cls = RX11 ∧ yX11_sizeBy.cls ≠ "java/lang/invoke/MethodHandle" ∧ yX11_sizeBy.cls ≠ "java/lang/invoke/VarHandle" ∧ (parseMethodDescriptor yX11_sizeBy.desc).map (fun d => d.parameters.length) = some 2 := by decide +kernel
def f_X11_sizeBy_0 (N : Nat) (z : ql_Z) (x1 : Int32) (x2 : Int32) : Option (Int32 × ql_Z) := if x1 = 1 then (f_X11_says N z 10).bind fun u2 => (f_X11_part N u2.2).bind fun u3 => some (((u2.1 + u3.1) + x2), u3.2) else if x1 = 2 then (f_X11_choice N z x2).bind fun u5 => some (u5.1, u5.2) else if x1 = 3 then (f_X11_loop N z x2).bind fun u7 => some (u7.1, u7.2) else if x1 = 4 then (f_X11_says N z 10000).bind fun u9 => (f_X11_part N u9.2).bind fun u10 => some ((((u9.1 + u10.1) + 4) - x2), u10.2) else (f_X11_part N z).bind fun u11 => some (u11.1, u11.2)
def f_X11_sizeBy (N : Nat) (z : ql_Z) (x1 : Int32) (x2 : Int32) : Option (Int32 × ql_Z) := f_X11_sizeBy_0 N z x1 x2
set_option maxHeartbeats 4000000 in
set_option maxRecDepth 100000 in
theorem w_X11_sizeBy_0 {p : Program} {l : Launch} {e : Env} {s : State} {m : MethodId} {args : Array Value} {below : List Frame} {meth : Method} {c : Code} {dC : Nat → ClassId} {dI : Nat → Nat → Nat} {A : Nat → Prop} {h : Nat} {ad : Nat → Nat} {cI cZ cJ : ClassId} {res : Int32 × ql_Z} (C0 : ql_C p s m args meth c cX11_sizeBy 3 (some .int) wsX11_sizeBy RX11 (dC, dI) [(cI, .int), (cZ, .boolean), (cJ, .long)] A) (N : Nat) : ∀ (z : ql_Z) (x1 : Int32) (x2 : Int32), f_X11_sizeBy_0 N z x1 x2 = some res → ∀ (H : Heap) (locs : List Loc) (ls : Array Slot), va_P (dC, dI) vwCl ((ql_mw h ad cI cZ cJ) z) H → va_D A ((ql_mw h ad cI cZ cJ) z) → va_S A s.heap H locs → lv_has ls 3 [(0, .ref h), (1, .int x1), (2, .int x2)] → W p l e rm_X11_sizeBy s m args below meth c H locs 0 0 (ql_Qi below (dC, dI) (ql_mw h ad cI cZ cJ) A args s res) (F0 m 0 ls []) := by
  have C0q := C0
  obtain ⟨hx, hb, hr, hml, hown, hts, hlocks, hK, hA⟩ := C0q
  intro z x1 x2 hf H locs ls hP hD hS hl
  unfold f_X11_sizeBy_0 at hf
  refine lv_iload_n hx hb dX11_sizeBy_0 rfl (lv_at hl 1 rfl) ?_
  by_cases c1 : x1 = 1
  · have hf := (if_pos c1).symm.trans hf
    refine lv_tableIn (tgt := 32) (off := 31) hx hb dX11_sizeBy_1 (by rw [c1]; decide) (by rw [c1]; decide) (by rw [c1]; rfl) (by decide) ?_
    refine lv_aload_n hx hb dX11_sizeBy_32 rfl (lv_at hl 0 rfl) ?_
    refine lv_bipush (v := 10) hx hb dX11_sizeBy_33 (by decide) ?_
    obtain ⟨u2, hu2, hf⟩ := ql_bd hf
    refine ql_callVi (As := [.int 10]) (rest := []) C0 (c_X11_says l dC dI h ad cI cZ cJ N z 10 u2 hu2) (cwV 1 hts gX11_sizeBy_X11_says rfl rfl rfl qv_X11_says ⟨Nat.le_of_ble_eq_true rfl, Nat.le_of_ble_eq_true rfl⟩) (va_recv hK.1 hP (ci := 11) (q0 := 0) rfl rfl) hP hD hS hl.1 rfl rfl (Nat.le_of_ble_eq_true rfl) dX11_sizeBy_35 (fun H locs hP hD hS => ?_)
    refine lv_aload_n hx hb dX11_sizeBy_38 rfl (lv_at hl 0 rfl) ?_
    obtain ⟨u3, hu3, hf⟩ := ql_bd hf
    refine ql_callVi (As := []) (rest := [.int u2.1]) C0 (c_X11_part l dC dI h ad cI cZ cJ N u2.2 u3 hu3) (cwV 0 hts gX11_sizeBy_X11_part rfl rfl rfl qv_X11_part ⟨Nat.le_of_ble_eq_true rfl, Nat.le_of_ble_eq_true rfl⟩) (va_recv hK.1 hP (ci := 11) (q0 := 0) rfl rfl) hP hD hS hl.1 rfl rfl (Nat.le_of_ble_eq_true rfl) dX11_sizeBy_39 (fun H locs hP hD hS => ?_)
    refine lv_iadd hx hb dX11_sizeBy_42 ?_
    refine lv_iload_n hx hb dX11_sizeBy_43 rfl (lv_at hl 2 rfl) ?_
    refine lv_iadd hx hb dX11_sizeBy_44 ?_
    exact ql_iret C0 hf hP hD hS dX11_sizeBy_45
  have hf := (if_neg c1).symm.trans hf
  by_cases c4 : x1 = 2
  · have hf := (if_pos c4).symm.trans hf
    refine lv_tableIn (tgt := 46) (off := 45) hx hb dX11_sizeBy_1 (by rw [c4]; decide) (by rw [c4]; decide) (by rw [c4]; rfl) (by decide) ?_
    refine lv_aload_n hx hb dX11_sizeBy_46 rfl (lv_at hl 0 rfl) ?_
    refine lv_iload_n hx hb dX11_sizeBy_47 rfl (lv_at hl 2 rfl) ?_
    obtain ⟨u5, hu5, hf⟩ := ql_bd hf
    refine ql_callVi (As := [.int x2]) (rest := []) C0 (c_X11_choice l dC dI h ad cI cZ cJ N z x2 u5 hu5) (cwV 1 hts gX11_sizeBy_X11_choice rfl rfl rfl qv_X11_choice ⟨Nat.le_of_ble_eq_true rfl, Nat.le_of_ble_eq_true rfl⟩) (va_recv hK.1 hP (ci := 11) (q0 := 0) rfl rfl) hP hD hS hl.1 rfl rfl (Nat.le_of_ble_eq_true rfl) dX11_sizeBy_48 (fun H locs hP hD hS => ?_)
    exact ql_iret C0 hf hP hD hS dX11_sizeBy_51
  have hf := (if_neg c4).symm.trans hf
  by_cases c6 : x1 = 3
  · have hf := (if_pos c6).symm.trans hf
    refine lv_tableIn (tgt := 52) (off := 51) hx hb dX11_sizeBy_1 (by rw [c6]; decide) (by rw [c6]; decide) (by rw [c6]; rfl) (by decide) ?_
    refine lv_aload_n hx hb dX11_sizeBy_52 rfl (lv_at hl 0 rfl) ?_
    refine lv_iload_n hx hb dX11_sizeBy_53 rfl (lv_at hl 2 rfl) ?_
    obtain ⟨u7, hu7, hf⟩ := ql_bd hf
    refine ql_callVi (As := [.int x2]) (rest := []) C0 (c_X11_loop l dC dI h ad cI cZ cJ N z x2 u7 hu7) (cwV 1 hts gX11_sizeBy_X11_loop rfl rfl rfl qv_X11_loop ⟨Nat.le_of_ble_eq_true rfl, Nat.le_of_ble_eq_true rfl⟩) (va_recv hK.1 hP (ci := 11) (q0 := 0) rfl rfl) hP hD hS hl.1 rfl rfl (Nat.le_of_ble_eq_true rfl) dX11_sizeBy_54 (fun H locs hP hD hS => ?_)
    exact ql_iret C0 hf hP hD hS dX11_sizeBy_57
  have hf := (if_neg c6).symm.trans hf
  by_cases c8 : x1 = 4
  · have hf := (if_pos c8).symm.trans hf
    refine lv_tableIn (tgt := 58) (off := 57) hx hb dX11_sizeBy_1 (by rw [c8]; decide) (by rw [c8]; decide) (by rw [c8]; rfl) (by decide) ?_
    refine lv_aload_n hx hb dX11_sizeBy_58 rfl (lv_at hl 0 rfl) ?_
    refine lv_sipush (v := 10000) hx hb dX11_sizeBy_59 (by decide) ?_
    obtain ⟨u9, hu9, hf⟩ := ql_bd hf
    refine ql_callVi (As := [.int 10000]) (rest := []) C0 (c_X11_says l dC dI h ad cI cZ cJ N z 10000 u9 hu9) (cwV 1 hts gX11_sizeBy_X11_says rfl rfl rfl qv_X11_says ⟨Nat.le_of_ble_eq_true rfl, Nat.le_of_ble_eq_true rfl⟩) (va_recv hK.1 hP (ci := 11) (q0 := 0) rfl rfl) hP hD hS hl.1 rfl rfl (Nat.le_of_ble_eq_true rfl) dX11_sizeBy_62 (fun H locs hP hD hS => ?_)
    refine lv_aload_n hx hb dX11_sizeBy_65 rfl (lv_at hl 0 rfl) ?_
    obtain ⟨u10, hu10, hf⟩ := ql_bd hf
    refine ql_callVi (As := []) (rest := [.int u9.1]) C0 (c_X11_part l dC dI h ad cI cZ cJ N u9.2 u10 hu10) (cwV 0 hts gX11_sizeBy_X11_part rfl rfl rfl qv_X11_part ⟨Nat.le_of_ble_eq_true rfl, Nat.le_of_ble_eq_true rfl⟩) (va_recv hK.1 hP (ci := 11) (q0 := 0) rfl rfl) hP hD hS hl.1 rfl rfl (Nat.le_of_ble_eq_true rfl) dX11_sizeBy_66 (fun H locs hP hD hS => ?_)
    refine lv_iadd hx hb dX11_sizeBy_69 ?_
    refine lv_iconst (v := 4) hx hb dX11_sizeBy_70 (by decide) ?_
    refine lv_iadd hx hb dX11_sizeBy_71 ?_
    refine lv_iload_n hx hb dX11_sizeBy_72 rfl (lv_at hl 2 rfl) ?_
    refine lv_isub hx hb dX11_sizeBy_73 ?_
    exact ql_iret C0 hf hP hD hS dX11_sizeBy_74
  have hf := (if_neg c8).symm.trans hf
  have ec1 : x1.toInt ≠ 1 := ql_ne (k := 1) c1
  have ec4 : x1.toInt ≠ 2 := ql_ne (k := 2) c4
  have ec6 : x1.toInt ≠ 3 := ql_ne (k := 3) c6
  have ec8 : x1.toInt ≠ 4 := ql_ne (k := 4) c8
  refine lv_tableOut (tgt := 75) hx hb dX11_sizeBy_1 (by omega) (by decide) ?_
  refine lv_aload_n hx hb dX11_sizeBy_75 rfl (lv_at hl 0 rfl) ?_
  obtain ⟨u11, hu11, hf⟩ := ql_bd hf
  refine ql_callVi (As := []) (rest := []) C0 (c_X11_part l dC dI h ad cI cZ cJ N z u11 hu11) (cwV 0 hts gX11_sizeBy_X11_part rfl rfl rfl qv_X11_part ⟨Nat.le_of_ble_eq_true rfl, Nat.le_of_ble_eq_true rfl⟩) (va_recv hK.1 hP (ci := 11) (q0 := 0) rfl rfl) hP hD hS hl.1 rfl rfl (Nat.le_of_ble_eq_true rfl) dX11_sizeBy_76 (fun H locs hP hD hS => ?_)
  exact ql_iret C0 hf hP hD hS dX11_sizeBy_79
set_option maxRecDepth 100000 in
theorem c_X11_sizeBy (l : Launch) (dC : Nat → ClassId) (dI : Nat → Nat → Nat) (h : Nat) (ad : Nat → Nat) (cI cZ cJ : ClassId) (N : Nat) (z : ql_Z) (x1 : Int32) (x2 : Int32) (res : Int32 × ql_Z) (hf : f_X11_sizeBy N z x1 x2 = some res) : ql_Mi l yX11_sizeBy wsX11_sizeBy rm_X11_sizeBy (dC, dI) [(cI, .int), (cZ, .boolean), (cJ, .long)] (ql_mw h ad cI cZ cJ) [.ref h, .int x1, .int x2] z res :=
  ql_start_i (by decide) rfl (Nat.le_of_ble_eq_true rfl) (fun p e s m below meth c A ls C0 hl hP hD hS => w_X11_sizeBy_0 C0 N z x1 x2 hf s.heap [] ls hP hD hS (lv_sub (show lv_has ls 3 [(0, .ref h), (1, .int x1), (2, .int x2)] from hl) [0, 1, 2] rfl))
/-! ===== TestedLoopsModel.size(I)I ===== -/
abbrev rm_X11_size : Room := { frames := 5, cells := 0, slots := 0, locals := 105 }
theorem iw_X11_size_X11 : ∀ w ∈ wsX110, w ∈ wsX11_size := fun w h => List.mem_cons_of_mem _ (List.mem_append_right _ h)
theorem qv_X11_size : yX11_size.cls = RX11 ∧ yX11_size.cls ≠ "java/lang/invoke/MethodHandle" ∧ yX11_size.cls ≠ "java/lang/invoke/VarHandle" ∧ (parseMethodDescriptor yX11_size.desc).map (fun d => d.parameters.length) = some 1 := by decide +kernel
def f_X11_size_13 (N : Nat) : Nat → ql_Z → Int32 → Int32 → Int32 → Option (Int32 × ql_Z)
  | 0, _, _, _, _ => none
  | n + 1, z, x1, x2, x3 => if ql_ib x1 5 = true then if ((z.1 12) x1.toNatClampNeg) ≤ x3 then some (x2, z) else if ql_ib ((200 * x1) + x3) 1000 = true then if ql_ib ((200 * x1) + x3) 1000 = true then (f_X11_sizeBy N z ((z.1 10) ((200 * x1) + x3).toNatClampNeg) ((z.1 11) ((200 * x1) + x3).toNatClampNeg)).bind fun u2 => f_X11_size_13 N n u2.2 x1 (x2 + u2.1) (x3 + 1) else none else none else none
def f_X11_size_0 (N : Nat) (z : ql_Z) (x1 : Int32) : Option (Int32 × ql_Z) := (f_X11_isProgram N x1).bind fun u3 => if u3 = 0 then some ((-1), z) else f_X11_size_13 N N z x1 0 0
def f_X11_size (N : Nat) (z : ql_Z) (x1 : Int32) : Option (Int32 × ql_Z) := f_X11_size_0 N z x1
set_option maxHeartbeats 4000000 in
set_option maxRecDepth 100000 in
theorem w_X11_size_13 {p : Program} {l : Launch} {e : Env} {s : State} {m : MethodId} {args : Array Value} {below : List Frame} {meth : Method} {c : Code} {dC : Nat → ClassId} {dI : Nat → Nat → Nat} {A : Nat → Prop} {h : Nat} {ad : Nat → Nat} {cI cZ cJ : ClassId} {res : Int32 × ql_Z} (C0 : ql_C p s m args meth c cX11_size 4 (some .int) wsX11_size RX11 (dC, dI) [(cI, .int), (cZ, .boolean), (cJ, .long)] A) (N : Nat) : ∀ (n : Nat), ∀ (z : ql_Z) (x1 : Int32) (x2 : Int32) (x3 : Int32), f_X11_size_13 N n z x1 x2 x3 = some res → ∀ (H : Heap) (locs : List Loc) (ls : Array Slot), va_P (dC, dI) vwCl ((ql_mw h ad cI cZ cJ) z) H → va_D A ((ql_mw h ad cI cZ cJ) z) → va_S A s.heap H locs → lv_has ls 4 [(0, .ref h), (1, .int x1), (2, .int x2), (3, .int x3)] → W p l e rm_X11_size s m args below meth c H locs 0 0 (ql_Qi below (dC, dI) (ql_mw h ad cI cZ cJ) A args s res) (F0 m 13 ls []) := by
  have C0q := C0
  obtain ⟨hx, hb, hr, hml, hown, hts, hlocks, hK, hA⟩ := C0q
  have fl40 := hts (Cond.fieldLink RX11 40 "TestedLoopsModel" "statements" "[I") (by decide +kernel)
  have fl34 := hts (Cond.fieldLink RX11 34 "TestedLoopsModel" "kinds" "[I") (by decide +kernel)
  have fl37 := hts (Cond.fieldLink RX11 37 "TestedLoopsModel" "lets" "[I") (by decide +kernel)
  intro n
  induction n with
  | zero =>
    intro z x1 x2 x3 hf
    rw [f_X11_size_13] at hf
    cases hf
  | succ n ih =>
    intro z x1 x2 x3 hf H locs ls hP hD hS hl
    rw [f_X11_size_13] at hf
    refine lv_iload_n hx hb dX11_size_13 rfl (lv_at hl 3 rfl) ?_
    refine lv_aload_n hx hb dX11_size_14 rfl (lv_at hl 0 rfl) ?_
    refine va_get (D := (dC, dI)) (ci := 11) (v := .ref (ad 12)) (C := RX11) (T := TX11) (N := 41) hx hb hts iw_X11_size_X11 hown hK.1 hP 0 rfl rfl 12 (by decide) fl40 (fun _ h9 => h9) rfl dX11_size_15 ?_
    refine lv_iload_n hx hb dX11_size_18 rfl (lv_at hl 1 rfl) ?_
    have g0 := ql_in (ql_gt hf)
    have hf := ql_gx hf
    refine va_iald (f := (z.1 12)) hx hb hK.1 hP 11 0 rfl rfl g0 dX11_size_19 ?_
    refine lv_icmp_ge (tgt := 60) hx hb dX11_size_20 (by decide) (fun c1 => ?_) (fun c1 => ?_)
    · have hf := (if_pos c1).symm.trans hf
      refine lv_iload_n hx hb dX11_size_60 rfl (lv_at hl 2 rfl) ?_
      exact ql_iret C0 hf hP hD hS dX11_size_61
    · have hf := (if_neg c1).symm.trans hf
      refine lv_iload_n hx hb dX11_size_23 rfl (lv_at hl 2 rfl) ?_
      refine lv_aload_n hx hb dX11_size_24 rfl (lv_at hl 0 rfl) ?_
      refine lv_aload_n hx hb dX11_size_25 rfl (lv_at hl 0 rfl) ?_
      refine va_get (D := (dC, dI)) (ci := 11) (v := .ref (ad 10)) (C := RX11) (T := TX11) (N := 41) hx hb hts iw_X11_size_X11 hown hK.1 hP 0 rfl rfl 10 (by decide) fl34 (fun _ h9 => h9) rfl dX11_size_26 ?_
      refine lv_sipush (v := 200) hx hb dX11_size_29 (by decide) ?_
      refine lv_iload_n hx hb dX11_size_32 rfl (lv_at hl 1 rfl) ?_
      refine lv_imul hx hb dX11_size_33 ?_
      refine lv_iload_n hx hb dX11_size_34 rfl (lv_at hl 3 rfl) ?_
      refine lv_iadd hx hb dX11_size_35 ?_
      have g0 := ql_in (ql_gt hf)
      have hf := ql_gx hf
      refine va_iald (f := (z.1 10)) hx hb hK.1 hP 9 0 rfl rfl g0 dX11_size_36 ?_
      refine lv_aload_n hx hb dX11_size_37 rfl (lv_at hl 0 rfl) ?_
      refine va_get (D := (dC, dI)) (ci := 11) (v := .ref (ad 11)) (C := RX11) (T := TX11) (N := 41) hx hb hts iw_X11_size_X11 hown hK.1 hP 0 rfl rfl 11 (by decide) fl37 (fun _ h9 => h9) rfl dX11_size_38 ?_
      refine lv_sipush (v := 200) hx hb dX11_size_41 (by decide) ?_
      refine lv_iload_n hx hb dX11_size_44 rfl (lv_at hl 1 rfl) ?_
      refine lv_imul hx hb dX11_size_45 ?_
      refine lv_iload_n hx hb dX11_size_46 rfl (lv_at hl 3 rfl) ?_
      refine lv_iadd hx hb dX11_size_47 ?_
      have g0 := ql_in (ql_gt hf)
      have hf := ql_gx hf
      refine va_iald (f := (z.1 11)) hx hb hK.1 hP 10 0 rfl rfl g0 dX11_size_48 ?_
      obtain ⟨u2, hu2, hf⟩ := ql_bd hf
      refine ql_callVi (As := [.int ((z.1 10) ((200 * x1) + x3).toNatClampNeg), .int ((z.1 11) ((200 * x1) + x3).toNatClampNeg)]) (rest := [.int x2]) C0 (c_X11_sizeBy l dC dI h ad cI cZ cJ N z ((z.1 10) ((200 * x1) + x3).toNatClampNeg) ((z.1 11) ((200 * x1) + x3).toNatClampNeg) u2 hu2) (cwV 2 hts gX11_size_X11_sizeBy rfl rfl rfl qv_X11_sizeBy ⟨Nat.le_of_ble_eq_true rfl, Nat.le_of_ble_eq_true rfl⟩) (va_recv hK.1 hP (ci := 11) (q0 := 0) rfl rfl) hP hD hS hl.1 rfl rfl (Nat.le_of_ble_eq_true rfl) dX11_size_49 (fun H locs hP hD hS => ?_)
      refine lv_iadd hx hb dX11_size_52 ?_
      refine lv_istore_n (lv' := [(2, .int (x2 + u2.1)), (0, .ref h), (1, .int x1), (3, .int x3)]) hx hb dX11_size_53 rfl hl (by decide) rfl (fun ls hl => ?_)
      refine lv_iinc (v := (x3 + 1)) (lv' := [(3, .int (x3 + 1)), (2, .int (x2 + u2.1)), (0, .ref h), (1, .int x1)]) hx hb dX11_size_54 hl (k := 3) rfl rfl (by decide) rfl (fun ls hl => ?_)
      refine lv_goto (tgt := 13) hx hb dX11_size_57 (by decide) ?_
      exact ih _ _ _ _ hf _ _ _ hP hD hS (lv_sub hl [2, 3, 1, 0] rfl)
set_option maxHeartbeats 4000000 in
set_option maxRecDepth 100000 in
theorem w_X11_size_0 {p : Program} {l : Launch} {e : Env} {s : State} {m : MethodId} {args : Array Value} {below : List Frame} {meth : Method} {c : Code} {dC : Nat → ClassId} {dI : Nat → Nat → Nat} {A : Nat → Prop} {h : Nat} {ad : Nat → Nat} {cI cZ cJ : ClassId} {res : Int32 × ql_Z} (C0 : ql_C p s m args meth c cX11_size 4 (some .int) wsX11_size RX11 (dC, dI) [(cI, .int), (cZ, .boolean), (cJ, .long)] A) (N : Nat) : ∀ (z : ql_Z) (x1 : Int32), f_X11_size_0 N z x1 = some res → ∀ (H : Heap) (locs : List Loc) (ls : Array Slot), va_P (dC, dI) vwCl ((ql_mw h ad cI cZ cJ) z) H → va_D A ((ql_mw h ad cI cZ cJ) z) → va_S A s.heap H locs → lv_has ls 4 [(0, .ref h), (1, .int x1)] → W p l e rm_X11_size s m args below meth c H locs 0 0 (ql_Qi below (dC, dI) (ql_mw h ad cI cZ cJ) A args s res) (F0 m 0 ls []) := by
  have C0q := C0
  obtain ⟨hx, hb, hr, hml, hown, hts, hlocks, hK, hA⟩ := C0q
  intro z x1 hf H locs ls hP hD hS hl
  unfold f_X11_size_0 at hf
  refine lv_iload_n hx hb dX11_size_0 rfl (lv_at hl 1 rfl) ?_
  obtain ⟨u3, hu3, hf⟩ := ql_bd hf
  refine ql_callRSi (As := [.int x1]) (rest := []) C0 (c_X11_isProgram l dC dI N x1 u3 hu3) (va_cwS 1 hts gX11_size_X11_isProgram rfl rfl rfl qd_X11_isProgram ⟨Nat.le_of_ble_eq_true rfl, Nat.le_of_ble_eq_true rfl⟩) (hK.sub [] rfl) ql_nil hS hl.1 rfl rfl (Nat.le_of_ble_eq_true rfl) dX11_size_1 (fun H1 locs hk hS => ?_)
  have hP := ql_keep hP hk
  refine lv_if_ne (tgt := 9) hx hb dX11_size_4 (by decide) (fun c4 => ?_) (fun c4 => ?_)
  · have hf := (if_neg c4).symm.trans hf
    refine lv_iconst (v := 0) hx hb dX11_size_9 (by decide) ?_
    refine lv_istore_n (lv' := [(2, .int 0), (0, .ref h), (1, .int x1)]) hx hb dX11_size_10 rfl hl (by decide) rfl (fun ls hl => ?_)
    refine lv_iconst (v := 0) hx hb dX11_size_11 (by decide) ?_
    refine lv_istore_n (lv' := [(3, .int 0), (2, .int 0), (0, .ref h), (1, .int x1)]) hx hb dX11_size_12 rfl hl (by decide) rfl (fun ls hl => ?_)
    exact w_X11_size_13 C0 N N _ _ _ _ hf _ _ _ hP hD hS (lv_sub hl [2, 3, 1, 0] rfl)
  · have hf := (if_pos c4).symm.trans hf
    refine lv_iconst (v := (-1)) hx hb dX11_size_7 (by decide) ?_
    exact ql_iret C0 hf hP hD hS dX11_size_8
set_option maxRecDepth 100000 in
theorem c_X11_size (l : Launch) (dC : Nat → ClassId) (dI : Nat → Nat → Nat) (h : Nat) (ad : Nat → Nat) (cI cZ cJ : ClassId) (N : Nat) (z : ql_Z) (x1 : Int32) (res : Int32 × ql_Z) (hf : f_X11_size N z x1 = some res) : ql_Mi l yX11_size wsX11_size rm_X11_size (dC, dI) [(cI, .int), (cZ, .boolean), (cJ, .long)] (ql_mw h ad cI cZ cJ) [.ref h, .int x1] z res :=
  ql_start_i (by decide) rfl (Nat.le_of_ble_eq_true rfl) (fun p e s m below meth c A ls C0 hl hP hD hS => w_X11_size_0 C0 N z x1 hf s.heap [] ls hP hD hS (lv_sub (show lv_has ls 4 [(0, .ref h), (1, .int x1)] from hl) [0, 1] rfl))
/-! ===== TestedLoopsModel.count(I)I ===== -/
abbrev rm_X11_count : Room := { frames := 0, cells := 0, slots := 0, locals := 0 }
theorem iw_X11_count_X11 : ∀ w ∈ wsX110, w ∈ wsX11_count := fun w h => List.mem_cons_of_mem _ (List.mem_append_right _ h)
theorem qv_X11_count : yX11_count.cls = RX11 ∧ yX11_count.cls ≠ "java/lang/invoke/MethodHandle" ∧ yX11_count.cls ≠ "java/lang/invoke/VarHandle" ∧ (parseMethodDescriptor yX11_count.desc).map (fun d => d.parameters.length) = some 1 := by decide +kernel
def f_X11_count_0 (N : Nat) (z : ql_Z) (x1 : Int32) : Option (Int32) := if x1 = 0 then some (((((z.1 9) 0) + ((z.1 9) 1)) + ((z.1 9) 2)) + ((z.1 9) 3)) else if x1 = 1 then some (z.1 2 0) else some (-1)
def f_X11_count (N : Nat) (z : ql_Z) (x1 : Int32) : Option (Int32) := f_X11_count_0 N z x1
set_option maxHeartbeats 4000000 in
set_option maxRecDepth 100000 in
theorem w_X11_count_0 {p : Program} {l : Launch} {e : Env} {s : State} {m : MethodId} {args : Array Value} {below : List Frame} {meth : Method} {c : Code} {dC : Nat → ClassId} {dI : Nat → Nat → Nat} {A : Nat → Prop} {h : Nat} {ad : Nat → Nat} {cI cZ cJ : ClassId} {res : Int32} (C0 : ql_C p s m args meth c cX11_count 2 (some .int) wsX11_count RX11 (dC, dI) [(cI, .int), (cZ, .boolean), (cJ, .long)] A) (N : Nat) (z : ql_Z) : ∀ (x1 : Int32), f_X11_count_0 N z x1 = some res → ∀ (H : Heap) (locs : List Loc) (ls : Array Slot), va_P (dC, dI) vwCl ((ql_mw h ad cI cZ cJ) z) H → va_S A s.heap H locs → lv_has ls 2 [(0, .ref h), (1, .int x1)] → W p l e rm_X11_count s m args below meth c H locs 0 0 (ql_Qri below A args s res) (F0 m 0 ls []) := by
  have C0q := C0
  obtain ⟨hx, hb, hr, hml, hown, hts, hlocks, hK, hA⟩ := C0q
  have fl105 := hts (Cond.fieldLink RX11 105 "TestedLoopsModel" "typed" "I") (by decide +kernel)
  have fl31 := hts (Cond.fieldLink RX11 31 "TestedLoopsModel" "many" "[I") (by decide +kernel)
  intro x1 hf H locs ls hP hS hl
  unfold f_X11_count_0 at hf
  refine lv_iload_n hx hb dX11_count_0 rfl (lv_at hl 1 rfl) ?_
  refine lv_if_ne (tgt := 34) hx hb dX11_count_1 (by decide) (fun c1 => ?_) (fun c1 => ?_)
  · have hf := (if_neg c1).symm.trans hf
    refine lv_iload_n hx hb dX11_count_34 rfl (lv_at hl 1 rfl) ?_
    refine lv_iconst (v := 1) hx hb dX11_count_35 (by decide) ?_
    refine lv_icmp_ne (tgt := 46) hx hb dX11_count_36 (by decide) (fun c2 => ?_) (fun c2 => ?_)
    · have hf := (if_neg c2).symm.trans hf
      refine lv_iconst (v := (-1)) hx hb dX11_count_46 (by decide) ?_
      exact ql_riret C0 hf hS dX11_count_47
    · have hf := (if_pos c2).symm.trans hf
      refine lv_aload_n hx hb dX11_count_39 rfl (lv_at hl 0 rfl) ?_
      refine va_get (D := (dC, dI)) (ci := 11) (v := .int (z.1 2 0)) (C := RX11) (T := TX11) (N := 41) hx hb hts iw_X11_count_X11 hown hK.1 hP 0 rfl rfl 2 (by decide) fl105 (fun _ h9 => h9) rfl dX11_count_40 ?_
      refine lv_goto (tgt := 47) hx hb dX11_count_43 (by decide) ?_
      exact ql_riret C0 hf hS dX11_count_47
  · have hf := (if_pos c1).symm.trans hf
    refine lv_aload_n hx hb dX11_count_4 rfl (lv_at hl 0 rfl) ?_
    refine va_get (D := (dC, dI)) (ci := 11) (v := .ref (ad 9)) (C := RX11) (T := TX11) (N := 41) hx hb hts iw_X11_count_X11 hown hK.1 hP 0 rfl rfl 9 (by decide) fl31 (fun _ h9 => h9) rfl dX11_count_5 ?_
    refine lv_iconst (v := 0) hx hb dX11_count_8 (by decide) ?_
    refine va_iald (f := (z.1 9)) hx hb hK.1 hP 8 0 rfl rfl (ql_in (i := 0) (n := 5) (by decide)) dX11_count_9 ?_
    refine ql_tv (y := (z.1 9) 0) (congrArg (z.1 9) (by decide)) ?_
    refine lv_aload_n hx hb dX11_count_10 rfl (lv_at hl 0 rfl) ?_
    refine va_get (D := (dC, dI)) (ci := 11) (v := .ref (ad 9)) (C := RX11) (T := TX11) (N := 41) hx hb hts iw_X11_count_X11 hown hK.1 hP 0 rfl rfl 9 (by decide) fl31 (fun _ h9 => h9) rfl dX11_count_11 ?_
    refine lv_iconst (v := 1) hx hb dX11_count_14 (by decide) ?_
    refine va_iald (f := (z.1 9)) hx hb hK.1 hP 8 0 rfl rfl (ql_in (i := 1) (n := 5) (by decide)) dX11_count_15 ?_
    refine ql_tv (y := (z.1 9) 1) (congrArg (z.1 9) (by decide)) ?_
    refine lv_iadd hx hb dX11_count_16 ?_
    refine lv_aload_n hx hb dX11_count_17 rfl (lv_at hl 0 rfl) ?_
    refine va_get (D := (dC, dI)) (ci := 11) (v := .ref (ad 9)) (C := RX11) (T := TX11) (N := 41) hx hb hts iw_X11_count_X11 hown hK.1 hP 0 rfl rfl 9 (by decide) fl31 (fun _ h9 => h9) rfl dX11_count_18 ?_
    refine lv_iconst (v := 2) hx hb dX11_count_21 (by decide) ?_
    refine va_iald (f := (z.1 9)) hx hb hK.1 hP 8 0 rfl rfl (ql_in (i := 2) (n := 5) (by decide)) dX11_count_22 ?_
    refine ql_tv (y := (z.1 9) 2) (congrArg (z.1 9) (by decide)) ?_
    refine lv_iadd hx hb dX11_count_23 ?_
    refine lv_aload_n hx hb dX11_count_24 rfl (lv_at hl 0 rfl) ?_
    refine va_get (D := (dC, dI)) (ci := 11) (v := .ref (ad 9)) (C := RX11) (T := TX11) (N := 41) hx hb hts iw_X11_count_X11 hown hK.1 hP 0 rfl rfl 9 (by decide) fl31 (fun _ h9 => h9) rfl dX11_count_25 ?_
    refine lv_iconst (v := 3) hx hb dX11_count_28 (by decide) ?_
    refine va_iald (f := (z.1 9)) hx hb hK.1 hP 8 0 rfl rfl (ql_in (i := 3) (n := 5) (by decide)) dX11_count_29 ?_
    refine ql_tv (y := (z.1 9) 3) (congrArg (z.1 9) (by decide)) ?_
    refine lv_iadd hx hb dX11_count_30 ?_
    refine lv_goto (tgt := 47) hx hb dX11_count_31 (by decide) ?_
    exact ql_riret C0 hf hS dX11_count_47
set_option maxRecDepth 100000 in
theorem c_X11_count (l : Launch) (dC : Nat → ClassId) (dI : Nat → Nat → Nat) (h : Nat) (ad : Nat → Nat) (cI cZ cJ : ClassId) (N : Nat) (z : ql_Z) (x1 : Int32) (res : Int32) (hf : f_X11_count N z x1 = some res) : ql_Ri l yX11_count wsX11_count rm_X11_count (dC, dI) [(cI, .int), (cZ, .boolean), (cJ, .long)] ((ql_mw h ad cI cZ cJ) z) [.ref h, .int x1] res :=
  ql_start_ri (by decide) rfl (Nat.le_of_ble_eq_true rfl) (fun p e s m below meth c A ls C0 hl hP hS => w_X11_count_0 C0 N z x1 hf s.heap [] ls hP hS (lv_sub (show lv_has ls 2 [(0, .ref h), (1, .int x1)] from hl) [0, 1] rfl))
/-! ===== TestedLoopsModel.trace()J ===== -/
abbrev rm_X11_trace : Room := { frames := 0, cells := 0, slots := 0, locals := 0 }
theorem iw_X11_trace_X11 : ∀ w ∈ wsX110, w ∈ wsX11_trace := fun w h => List.mem_cons_of_mem _ (List.mem_append_right _ h)
theorem qv_X11_trace : yX11_trace.cls = RX11 ∧ yX11_trace.cls ≠ "java/lang/invoke/MethodHandle" ∧ yX11_trace.cls ≠ "java/lang/invoke/VarHandle" ∧ (parseMethodDescriptor yX11_trace.desc).map (fun d => d.parameters.length) = some 0 := by decide +kernel
def f_X11_trace_0 (N : Nat) (z : ql_Z) : Option (Int64) := some (z.2 0 0)
def f_X11_trace (N : Nat) (z : ql_Z) : Option (Int64) := f_X11_trace_0 N z
set_option maxHeartbeats 4000000 in
set_option maxRecDepth 100000 in
theorem w_X11_trace_0 {p : Program} {l : Launch} {e : Env} {s : State} {m : MethodId} {args : Array Value} {below : List Frame} {meth : Method} {c : Code} {dC : Nat → ClassId} {dI : Nat → Nat → Nat} {A : Nat → Prop} {h : Nat} {ad : Nat → Nat} {cI cZ cJ : ClassId} {res : Int64} (C0 : ql_C p s m args meth c cX11_trace 1 (some .long) wsX11_trace RX11 (dC, dI) [(cI, .int), (cZ, .boolean), (cJ, .long)] A) (N : Nat) (z : ql_Z) : f_X11_trace_0 N z = some res → ∀ (H : Heap) (locs : List Loc) (ls : Array Slot), va_P (dC, dI) vwCl ((ql_mw h ad cI cZ cJ) z) H → va_S A s.heap H locs → lv_has ls 1 [(0, .ref h)] → W p l e rm_X11_trace s m args below meth c H locs 0 0 (ql_Qrl below A args s res) (F0 m 0 ls []) := by
  have C0q := C0
  obtain ⟨hx, hb, hr, hml, hown, hts, hlocks, hK, hA⟩ := C0q
  have fl308 := hts (Cond.fieldLink RX11 308 "TestedLoopsModel" "trace" "J") (by decide +kernel)
  intro hf H locs ls hP hS hl
  unfold f_X11_trace_0 at hf
  refine lv_aload_n hx hb dX11_trace_0 rfl (lv_at hl 0 rfl) ?_
  refine va_get (D := (dC, dI)) (ci := 11) (v := .long (z.2 0 0)) (C := RX11) (T := TX11) (N := 41) hx hb hts iw_X11_trace_X11 hown hK.1 hP 0 rfl rfl 0 (by decide) fl308 (fun _ h9 => h9) rfl dX11_trace_1 ?_
  exact ql_rlret C0 hf hS dX11_trace_4
set_option maxRecDepth 100000 in
theorem c_X11_trace (l : Launch) (dC : Nat → ClassId) (dI : Nat → Nat → Nat) (h : Nat) (ad : Nat → Nat) (cI cZ cJ : ClassId) (N : Nat) (z : ql_Z) (res : Int64) (hf : f_X11_trace N z = some res) : ql_Rl l yX11_trace wsX11_trace rm_X11_trace (dC, dI) [(cI, .int), (cZ, .boolean), (cJ, .long)] ((ql_mw h ad cI cZ cJ) z) [.ref h] res :=
  ql_start_rl (by decide) rfl (Nat.le_of_ble_eq_true rfl) (fun p e s m below meth c A ls C0 hl hP hS => w_X11_trace_0 C0 N z hf s.heap [] ls hP hS (lv_sub (show lv_has ls 1 [(0, .ref h)] from hl) [0] rfl))
