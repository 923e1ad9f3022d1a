def ql_mw (h : Nat) (ad : Nat → Nat) (cI cZ cJ : ClassId) (z : ql_Z) : va_W := [(h, .inr (11, [.long (z.2 0 0), .ref (ad 1), .int (z.1 2 0), .ref (ad 3), .ref (ad 4), .ref (ad 5), .ref (ad 6), .ref (ad 7), .ref (ad 8), .ref (ad 9), .ref (ad 10), .ref (ad 11), .ref (ad 12), .ref (ad 13), .int (z.1 14 0), .int (z.1 15 0), .int (z.1 16 0), .ref (ad 17), .ref (ad 18), .int (z.1 19 0), .int (z.1 20 0), .int (z.1 21 0), .ref (ad 22), .ref (ad 23), .ref (ad 24), .int (z.1 25 0), .ref (ad 26), .ref (ad 27), .ref (ad 28), .ref (ad 29), .ref (ad 30), .int (z.1 31 0), .int (z.1 32 0), .int (z.1 33 0), .ref (ad 34), .ref (ad 35), .ref (ad 36), .ref (ad 37), .ref (ad 38), .int (z.1 39 0), .int (z.1 40 0)])), (ad 1, .inl (cI, 300, .inl (z.1 1))), (ad 3, .inl (cI, 2000, .inl (z.1 3))), (ad 4, .inl (cI, 2000, .inl (z.1 4))), (ad 5, .inl (cI, 2000, .inl (z.1 5))), (ad 6, .inl (cI, 5, .inl (z.1 6))), (ad 7, .inl (cI, 85, .inl (z.1 7))), (ad 8, .inl (cI, 85, .inl (z.1 8))), (ad 9, .inl (cI, 5, .inl (z.1 9))), (ad 10, .inl (cI, 1000, .inl (z.1 10))), (ad 11, .inl (cI, 1000, .inl (z.1 11))), (ad 12, .inl (cI, 5, .inl (z.1 12))), (ad 13, .inl (cI, 272, .inl (z.1 13))), (ad 17, .inl (cI, 310, .inl (z.1 17))), (ad 18, .inl (cI, 310, .inl (z.1 18))), (ad 22, .inl (cI, 9, .inl (z.1 22))), (ad 23, .inl (cI, 9, .inl (z.1 23))), (ad 24, .inl (cZ, 9, .inl (z.1 24))), (ad 26, .inl (cI, 324, .inl (z.1 26))), (ad 27, .inl (cI, 324, .inl (z.1 27))), (ad 28, .inl (cI, 324, .inl (z.1 28))), (ad 29, .inl (cI, 324, .inl (z.1 29))), (ad 30, .inl (cZ, 324, .inl (z.1 30))), (ad 34, .inl (cI, 17, .inl (z.1 34))), (ad 35, .inl (cI, 17, .inl (z.1 35))), (ad 36, .inl (cI, 17, .inl (z.1 36))), (ad 37, .inl (cJ, 17, .inr (.inl (z.2 37)))), (ad 38, .inl (cJ, 17, .inr (.inl (z.2 38))))]
/-! ===== TestedLoopsModel.in(JJJ)Z ===== -/
abbrev rm_X11_in : Room := { frames := 0, cells := 0, slots := 0, locals := 0 }
theorem qd_X11_in : yX11_in.cls ≠ "java/lang/invoke/MethodHandle" ∧ yX11_in.cls ≠ "java/lang/invoke/VarHandle" ∧ (parseMethodDescriptor yX11_in.desc).map (fun d => d.parameters.length) = some 3 := by decide +kernel
def f_X11_in_0 (N : Nat) (x0 : Int64) (x2 : Int64) (x4 : Int64) : Option (Int32) := if (lg_cmp x0 x2) < 0 then some 0 else if 0 < (lg_cmp x0 x4) then some 0 else some 1
def f_X11_in (N : Nat) (x0 : Int64) (x2 : Int64) (x4 : Int64) : Option (Int32) := f_X11_in_0 N x0 x2 x4
set_option maxHeartbeats 4000000 in
set_option maxRecDepth 100000 in
theorem w_X11_in_0 {p : Program} {l : Launch} {e : Env} {s : State} {m : MethodId} {args : Array Value} {below : List Frame} {meth : Method} {c : Code} {dC : Nat → ClassId} {dI : Nat → Nat → Nat} {A : Nat → Prop} {res : Int32} (C0 : ql_C p s m args meth c cX11_in 6 (some .boolean) wsX11_in RX11 (dC, dI) [] A) (N : Nat) : ∀ (x0 : Int64) (x2 : Int64) (x4 : Int64), f_X11_in_0 N x0 x2 x4 = some res → ∀ (H : Heap) (locs : List Loc) (ls : Array Slot), va_S A s.heap H locs → lv_has ls 6 [(0, .long x0), (2, .long x2), (4, .long x4)] → W p l e rm_X11_in s m args below meth c H locs 0 0 (ql_Qri below A args s res) (F0 m 0 ls []) := by
  have C0q := C0
  obtain ⟨hx, hb, hr, hml, hown, hts, hlocks, hK, hA⟩ := C0q
  intro x0 x2 x4 hf H locs ls hS hl
  unfold f_X11_in_0 at hf
  refine lv_lload_n hx hb dX11_in_0 rfl (lv_at hl 0 rfl) ?_
  refine lv_lload_n hx hb dX11_in_1 rfl (lv_at hl 1 rfl) ?_
  refine W.lcmp hx hb dX11_in_2 ?_
  refine lv_if_lt (tgt := 17) hx hb dX11_in_3 (by decide) (fun c1 => ?_) (fun c1 => ?_)
  · have hf := (if_pos c1).symm.trans hf
    refine lv_iconst (v := 0) hx hb dX11_in_17 (by decide) ?_
    exact ql_rzret C0 (Or.inl rfl) hf hS dX11_in_18
  · have hf := (if_neg c1).symm.trans hf
    refine lv_lload_n hx hb dX11_in_6 rfl (lv_at hl 0 rfl) ?_
    refine lv_lload hx hb dX11_in_7 (lv_at hl 2 rfl) ?_
    refine W.lcmp hx hb dX11_in_9 ?_
    refine lv_if_gt (tgt := 17) hx hb dX11_in_10 (by decide) (fun c2 => ?_) (fun c2 => ?_)
    · have hf := (if_pos c2).symm.trans hf
      refine lv_iconst (v := 0) hx hb dX11_in_17 (by decide) ?_
      exact ql_rzret C0 (Or.inl rfl) hf hS dX11_in_18
    · have hf := (if_neg c2).symm.trans hf
      refine lv_iconst (v := 1) hx hb dX11_in_13 (by decide) ?_
      refine lv_goto (tgt := 18) hx hb dX11_in_14 (by decide) ?_
      exact ql_rzret C0 (Or.inr rfl) hf hS dX11_in_18
set_option maxRecDepth 100000 in
theorem c_X11_in (l : Launch) (dC : Nat → ClassId) (dI : Nat → Nat → Nat) (N : Nat) (x0 : Int64) (x2 : Int64) (x4 : Int64) (res : Int32) (hf : f_X11_in N x0 x2 x4 = some res) : ql_Ri l yX11_in wsX11_in rm_X11_in (dC, dI) [] ([]) [.long x0, .long x2, .long x4] res :=
  ql_start_ri (by decide) rfl (Nat.le_of_ble_eq_true rfl) (fun p e s m below meth c A ls C0 hl hP hS => w_X11_in_0 C0 N x0 x2 x4 hf s.heap [] ls hS (lv_sub (show lv_has ls 6 [(0, .long x0), (2, .long x2), (4, .long x4)] from hl) [0, 1, 2] rfl))
/-! ===== TestedLoopsModel.isProgram(I)Z ===== -/
abbrev rm_X11_isProgram : Room := { frames := 1, cells := 0, slots := 0, locals := 25 }
theorem qd_X11_isProgram : yX11_isProgram.cls ≠ "java/lang/invoke/MethodHandle" ∧ yX11_isProgram.cls ≠ "java/lang/invoke/VarHandle" ∧ (parseMethodDescriptor yX11_isProgram.desc).map (fun d => d.parameters.length) = some 1 := by decide +kernel
def f_X11_isProgram_0 (N : Nat) (x0 : Int32) : Option (Int32) := (f_X11_in N x0.toInt64 0 3).bind fun u1 => if ql_bz u1 = true then some u1 else none
def f_X11_isProgram (N : Nat) (x0 : Int32) : Option (Int32) := f_X11_isProgram_0 N x0
set_option maxHeartbeats 4000000 in
set_option maxRecDepth 100000 in
theorem w_X11_isProgram_0 {p : Program} {l : Launch} {e : Env} {s : State} {m : MethodId} {args : Array Value} {below : List Frame} {meth : Method} {c : Code} {dC : Nat → ClassId} {dI : Nat → Nat → Nat} {A : Nat → Prop} {res : Int32} (C0 : ql_C p s m args meth c cX11_isProgram 1 (some .boolean) wsX11_isProgram RX11 (dC, dI) [] A) (N : Nat) : ∀ (x0 : Int32), f_X11_isProgram_0 N x0 = some res → ∀ (H : Heap) (locs : List Loc) (ls : Array Slot), va_S A s.heap H locs → lv_has ls 1 [(0, .int x0)] → W p l e rm_X11_isProgram s m args below meth c H locs 0 0 (ql_Qri below A args s res) (F0 m 0 ls []) := by
  have C0q := C0
  obtain ⟨hx, hb, hr, hml, hown, hts, hlocks, hK, hA⟩ := C0q
  have fl97 := hts (Cond.constantLong RX11 97 (3)) (by decide +kernel)
  intro x0 hf H locs ls hS hl
  unfold f_X11_isProgram_0 at hf
  refine lv_iload_n hx hb dX11_isProgram_0 rfl (lv_at hl 0 rfl) ?_
  refine lv_i2l hx hb dX11_isProgram_1 rfl ?_
  refine lv_lconst (v := 0) hx hb dX11_isProgram_2 (by decide) ?_
  refine lv_ldc2 hx hb hown fl97 dX11_isProgram_3 ?_
  obtain ⟨u1, hu1, hf⟩ := ql_bd hf
  refine ql_callRSi (As := [.long x0.toInt64, .long 0, .long 3]) (rest := []) C0 (c_X11_in l dC dI N x0.toInt64 0 3 u1 hu1) (va_cwS 3 hts gX11_isProgram_X11_in rfl rfl rfl qd_X11_in ⟨Nat.le_of_ble_eq_true rfl, Nat.le_of_ble_eq_true rfl⟩) (hK.sub [] rfl) ql_nil hS hl.1 rfl rfl (Nat.le_of_ble_eq_true rfl) dX11_isProgram_6 (fun H1 locs hk hS => ?_)
  exact ql_rzret C0 (ql_bzo (ql_gt hf)) (ql_gx hf) hS dX11_isProgram_9
set_option maxRecDepth 100000 in
theorem c_X11_isProgram (l : Launch) (dC : Nat → ClassId) (dI : Nat → Nat → Nat) (N : Nat) (x0 : Int32) (res : Int32) (hf : f_X11_isProgram N x0 = some res) : ql_Ri l yX11_isProgram wsX11_isProgram rm_X11_isProgram (dC, dI) [] ([]) [.int x0] res :=
  ql_start_ri (by decide) rfl (Nat.le_of_ble_eq_true rfl) (fun p e s m below meth c A ls C0 hl hP hS => w_X11_isProgram_0 C0 N x0 hf s.heap [] ls hS (lv_sub (show lv_has ls 1 [(0, .int x0)] from hl) [0] rfl))
/-! ===== TestedLoopsModel.isAtom(I)Z ===== -/
abbrev rm_X11_isAtom : Room := { frames := 1, cells := 0, slots := 0, locals := 25 }
theorem qd_X11_isAtom : yX11_isAtom.cls ≠ "java/lang/invoke/MethodHandle" ∧ yX11_isAtom.cls ≠ "java/lang/invoke/VarHandle" ∧ (parseMethodDescriptor yX11_isAtom.desc).map (fun d => d.parameters.length) = some 1 := by decide +kernel
def f_X11_isAtom_0 (N : Nat) (x0 : Int32) : Option (Int32) := (f_X11_in N x0.toInt64 0 3).bind fun u1 => if ql_bz u1 = true then some u1 else none
def f_X11_isAtom (N : Nat) (x0 : Int32) : Option (Int32) := f_X11_isAtom_0 N x0
set_option maxHeartbeats 4000000 in
set_option maxRecDepth 100000 in
theorem w_X11_isAtom_0 {p : Program} {l : Launch} {e : Env} {s : State} {m : MethodId} {args : Array Value} {below : List Frame} {meth : Method} {c : Code} {dC : Nat → ClassId} {dI : Nat → Nat → Nat} {A : Nat → Prop} {res : Int32} (C0 : ql_C p s m args meth c cX11_isAtom 1 (some .boolean) wsX11_isAtom RX11 (dC, dI) [] A) (N : Nat) : ∀ (x0 : Int32), f_X11_isAtom_0 N x0 = some res → ∀ (H : Heap) (locs : List Loc) (ls : Array Slot), va_S A s.heap H locs → lv_has ls 1 [(0, .int x0)] → W p l e rm_X11_isAtom s m args below meth c H locs 0 0 (ql_Qri below A args s res) (F0 m 0 ls []) := by
  have C0q := C0
  obtain ⟨hx, hb, hr, hml, hown, hts, hlocks, hK, hA⟩ := C0q
  have fl97 := hts (Cond.constantLong RX11 97 (3)) (by decide +kernel)
  intro x0 hf H locs ls hS hl
  unfold f_X11_isAtom_0 at hf
  refine lv_iload_n hx hb dX11_isAtom_0 rfl (lv_at hl 0 rfl) ?_
  refine lv_i2l hx hb dX11_isAtom_1 rfl ?_
  refine lv_lconst (v := 0) hx hb dX11_isAtom_2 (by decide) ?_
  refine lv_ldc2 hx hb hown fl97 dX11_isAtom_3 ?_
  obtain ⟨u1, hu1, hf⟩ := ql_bd hf
  refine ql_callRSi (As := [.long x0.toInt64, .long 0, .long 3]) (rest := []) C0 (c_X11_in l dC dI N x0.toInt64 0 3 u1 hu1) (va_cwS 3 hts gX11_isAtom_X11_in rfl rfl rfl qd_X11_in ⟨Nat.le_of_ble_eq_true rfl, Nat.le_of_ble_eq_true rfl⟩) (hK.sub [] rfl) ql_nil hS hl.1 rfl rfl (Nat.le_of_ble_eq_true rfl) dX11_isAtom_6 (fun H1 locs hk hS => ?_)
  exact ql_rzret C0 (ql_bzo (ql_gt hf)) (ql_gx hf) hS dX11_isAtom_9
set_option maxRecDepth 100000 in
theorem c_X11_isAtom (l : Launch) (dC : Nat → ClassId) (dI : Nat → Nat → Nat) (N : Nat) (x0 : Int32) (res : Int32) (hf : f_X11_isAtom N x0 = some res) : ql_Ri l yX11_isAtom wsX11_isAtom rm_X11_isAtom (dC, dI) [] ([]) [.int x0] res :=
  ql_start_ri (by decide) rfl (Nat.le_of_ble_eq_true rfl) (fun p e s m below meth c A ls C0 hl hP hS => w_X11_isAtom_0 C0 N x0 hf s.heap [] ls hS (lv_sub (show lv_has ls 1 [(0, .int x0)] from hl) [0] rfl))
/-! ===== TestedLoopsModel.isLetter(I)Z ===== -/
abbrev rm_X11_isLetter : Room := { frames := 1, cells := 0, slots := 0, locals := 25 }
theorem qd_X11_isLetter : yX11_isLetter.cls ≠ "java/lang/invoke/MethodHandle" ∧ yX11_isLetter.cls ≠ "java/lang/invoke/VarHandle" ∧ (parseMethodDescriptor yX11_isLetter.desc).map (fun d => d.parameters.length) = some 1 := by decide +kernel
def f_X11_isLetter_0 (N : Nat) (x0 : Int32) : Option (Int32) := (f_X11_in N x0.toInt64 97 122).bind fun u1 => if ql_bz u1 = true then some u1 else none
def f_X11_isLetter (N : Nat) (x0 : Int32) : Option (Int32) := f_X11_isLetter_0 N x0
set_option maxHeartbeats 4000000 in
set_option maxRecDepth 100000 in
theorem w_X11_isLetter_0 {p : Program} {l : Launch} {e : Env} {s : State} {m : MethodId} {args : Array Value} {below : List Frame} {meth : Method} {c : Code} {dC : Nat → ClassId} {dI : Nat → Nat → Nat} {A : Nat → Prop} {res : Int32} (C0 : ql_C p s m args meth c cX11_isLetter 1 (some .boolean) wsX11_isLetter RX11 (dC, dI) [] A) (N : Nat) : ∀ (x0 : Int32), f_X11_isLetter_0 N x0 = some res → ∀ (H : Heap) (locs : List Loc) (ls : Array Slot), va_S A s.heap H locs → lv_has ls 1 [(0, .int x0)] → W p l e rm_X11_isLetter s m args below meth c H locs 0 0 (ql_Qri below A args s res) (F0 m 0 ls []) := by
  have C0q := C0
  obtain ⟨hx, hb, hr, hml, hown, hts, hlocks, hK, hA⟩ := C0q
  have fl111 := hts (Cond.constantLong RX11 111 (97)) (by decide +kernel)
  have fl113 := hts (Cond.constantLong RX11 113 (122)) (by decide +kernel)
  intro x0 hf H locs ls hS hl
  unfold f_X11_isLetter_0 at hf
  refine lv_iload_n hx hb dX11_isLetter_0 rfl (lv_at hl 0 rfl) ?_
  refine lv_i2l hx hb dX11_isLetter_1 rfl ?_
  refine lv_ldc2 hx hb hown fl111 dX11_isLetter_2 ?_
  refine lv_ldc2 hx hb hown fl113 dX11_isLetter_5 ?_
  obtain ⟨u1, hu1, hf⟩ := ql_bd hf
  refine ql_callRSi (As := [.long x0.toInt64, .long 97, .long 122]) (rest := []) C0 (c_X11_in l dC dI N x0.toInt64 97 122 u1 hu1) (va_cwS 3 hts gX11_isLetter_X11_in rfl rfl rfl qd_X11_in ⟨Nat.le_of_ble_eq_true rfl, Nat.le_of_ble_eq_true rfl⟩) (hK.sub [] rfl) ql_nil hS hl.1 rfl rfl (Nat.le_of_ble_eq_true rfl) dX11_isLetter_8 (fun H1 locs hk hS => ?_)
  exact ql_rzret C0 (ql_bzo (ql_gt hf)) (ql_gx hf) hS dX11_isLetter_11
set_option maxRecDepth 100000 in
theorem c_X11_isLetter (l : Launch) (dC : Nat → ClassId) (dI : Nat → Nat → Nat) (N : Nat) (x0 : Int32) (res : Int32) (hf : f_X11_isLetter N x0 = some res) : ql_Ri l yX11_isLetter wsX11_isLetter rm_X11_isLetter (dC, dI) [] ([]) [.int x0] res :=
  ql_start_ri (by decide) rfl (Nat.le_of_ble_eq_true rfl) (fun p e s m below meth c A ls C0 hl hP hS => w_X11_isLetter_0 C0 N x0 hf s.heap [] ls hS (lv_sub (show lv_has ls 1 [(0, .int x0)] from hl) [0] rfl))
/-! ===== TestedLoopsModel.longer(J)I ===== -/
abbrev rm_X11_longer : Room := { frames := 0, cells := 0, slots := 0, locals := 0 }
theorem qd_X11_longer : yX11_longer.cls ≠ "java/lang/invoke/MethodHandle" ∧ yX11_longer.cls ≠ "java/lang/invoke/VarHandle" ∧ (parseMethodDescriptor yX11_longer.desc).map (fun d => d.parameters.length) = some 1 := by decide +kernel
def f_X11_longer_0 (N : Nat) (x0 : Int64) : Option (Int32) := if (lg_cmp x0 634160) = 0 then some 2 else if (lg_cmp x0 643568) = 0 then some 3 else if (lg_cmp x0 294) = 0 then some 4 else if (lg_cmp x0 663726) = 0 then some 5 else if (lg_cmp x0 176741) = 0 then some 6 else if (lg_cmp x0 201) = 0 then some 7 else if (lg_cmp x0 24388997) = 0 then some 8 else if (lg_cmp x0 143) = 0 then some 9 else if (lg_cmp x0 484) = 0 then some 10 else if (lg_cmp x0 755156) = 0 then some 11 else some 1
def f_X11_longer (N : Nat) (x0 : Int64) : Option (Int32) := f_X11_longer_0 N x0
set_option maxHeartbeats 4000000 in
set_option maxRecDepth 100000 in
theorem w_X11_longer_0 {p : Program} {l : Launch} {e : Env} {s : State} {m : MethodId} {args : Array Value} {below : List Frame} {meth : Method} {c : Code} {dC : Nat → ClassId} {dI : Nat → Nat → Nat} {A : Nat → Prop} {res : Int32} (C0 : ql_C p s m args meth c cX11_longer 2 (some .int) wsX11_longer RX11 (dC, dI) [] A) (N : Nat) : ∀ (x0 : Int64), f_X11_longer_0 N x0 = some res → ∀ (H : Heap) (locs : List Loc) (ls : Array Slot), va_S A s.heap H locs → lv_has ls 2 [(0, .long x0)] → W p l e rm_X11_longer s m args below meth c H locs 0 0 (ql_Qri below A args s res) (F0 m 0 ls []) := by
  have C0q := C0
  obtain ⟨hx, hb, hr, hml, hown, hts, hlocks, hK, hA⟩ := C0q
  have fl130 := hts (Cond.constantLong RX11 130 (634160)) (by decide +kernel)
  have fl132 := hts (Cond.constantLong RX11 132 (643568)) (by decide +kernel)
  have fl134 := hts (Cond.constantLong RX11 134 (294)) (by decide +kernel)
  have fl136 := hts (Cond.constantLong RX11 136 (663726)) (by decide +kernel)
  have fl138 := hts (Cond.constantLong RX11 138 (176741)) (by decide +kernel)
  have fl140 := hts (Cond.constantLong RX11 140 (201)) (by decide +kernel)
  have fl142 := hts (Cond.constantLong RX11 142 (24388997)) (by decide +kernel)
  have fl144 := hts (Cond.constantLong RX11 144 (143)) (by decide +kernel)
  have fl146 := hts (Cond.constantLong RX11 146 (484)) (by decide +kernel)
  have fl148 := hts (Cond.constantLong RX11 148 (755156)) (by decide +kernel)
  intro x0 hf H locs ls hS hl
  unfold f_X11_longer_0 at hf
  refine lv_lload_n hx hb dX11_longer_0 rfl (lv_at hl 0 rfl) ?_
  refine lv_ldc2 hx hb hown fl130 dX11_longer_1 ?_
  refine W.lcmp hx hb dX11_longer_4 ?_
  refine lv_if_ne (tgt := 12) hx hb dX11_longer_5 (by decide) (fun c1 => ?_) (fun c1 => ?_)
  · have hf := (if_neg c1).symm.trans hf
    refine lv_lload_n hx hb dX11_longer_12 rfl (lv_at hl 0 rfl) ?_
    refine lv_ldc2 hx hb hown fl132 dX11_longer_13 ?_
    refine W.lcmp hx hb dX11_longer_16 ?_
    refine lv_if_ne (tgt := 24) hx hb dX11_longer_17 (by decide) (fun c2 => ?_) (fun c2 => ?_)
    · have hf := (if_neg c2).symm.trans hf
      refine lv_lload_n hx hb dX11_longer_24 rfl (lv_at hl 0 rfl) ?_
      refine lv_ldc2 hx hb hown fl134 dX11_longer_25 ?_
      refine W.lcmp hx hb dX11_longer_28 ?_
      refine lv_if_ne (tgt := 36) hx hb dX11_longer_29 (by decide) (fun c3 => ?_) (fun c3 => ?_)
      · have hf := (if_neg c3).symm.trans hf
        refine lv_lload_n hx hb dX11_longer_36 rfl (lv_at hl 0 rfl) ?_
        refine lv_ldc2 hx hb hown fl136 dX11_longer_37 ?_
        refine W.lcmp hx hb dX11_longer_40 ?_
        refine lv_if_ne (tgt := 48) hx hb dX11_longer_41 (by decide) (fun c4 => ?_) (fun c4 => ?_)
        · have hf := (if_neg c4).symm.trans hf
          refine lv_lload_n hx hb dX11_longer_48 rfl (lv_at hl 0 rfl) ?_
          refine lv_ldc2 hx hb hown fl138 dX11_longer_49 ?_
          refine W.lcmp hx hb dX11_longer_52 ?_
          refine lv_if_ne (tgt := 61) hx hb dX11_longer_53 (by decide) (fun c5 => ?_) (fun c5 => ?_)
          · have hf := (if_neg c5).symm.trans hf
            refine lv_lload_n hx hb dX11_longer_61 rfl (lv_at hl 0 rfl) ?_
            refine lv_ldc2 hx hb hown fl140 dX11_longer_62 ?_
            refine W.lcmp hx hb dX11_longer_65 ?_
            refine lv_if_ne (tgt := 74) hx hb dX11_longer_66 (by decide) (fun c6 => ?_) (fun c6 => ?_)
            · have hf := (if_neg c6).symm.trans hf
              refine lv_lload_n hx hb dX11_longer_74 rfl (lv_at hl 0 rfl) ?_
              refine lv_ldc2 hx hb hown fl142 dX11_longer_75 ?_
              refine W.lcmp hx hb dX11_longer_78 ?_
              refine lv_if_ne (tgt := 87) hx hb dX11_longer_79 (by decide) (fun c7 => ?_) (fun c7 => ?_)
              · have hf := (if_neg c7).symm.trans hf
                refine lv_lload_n hx hb dX11_longer_87 rfl (lv_at hl 0 rfl) ?_
                refine lv_ldc2 hx hb hown fl144 dX11_longer_88 ?_
                refine W.lcmp hx hb dX11_longer_91 ?_
                refine lv_if_ne (tgt := 100) hx hb dX11_longer_92 (by decide) (fun c8 => ?_) (fun c8 => ?_)
                · have hf := (if_neg c8).symm.trans hf
                  refine lv_lload_n hx hb dX11_longer_100 rfl (lv_at hl 0 rfl) ?_
                  refine lv_ldc2 hx hb hown fl146 dX11_longer_101 ?_
                  refine W.lcmp hx hb dX11_longer_104 ?_
                  refine lv_if_ne (tgt := 113) hx hb dX11_longer_105 (by decide) (fun c9 => ?_) (fun c9 => ?_)
                  · have hf := (if_neg c9).symm.trans hf
                    refine lv_lload_n hx hb dX11_longer_113 rfl (lv_at hl 0 rfl) ?_
                    refine lv_ldc2 hx hb hown fl148 dX11_longer_114 ?_
                    refine W.lcmp hx hb dX11_longer_117 ?_
                    refine lv_if_ne (tgt := 126) hx hb dX11_longer_118 (by decide) (fun c10 => ?_) (fun c10 => ?_)
                    · have hf := (if_neg c10).symm.trans hf
                      refine lv_iconst (v := 1) hx hb dX11_longer_126 (by decide) ?_
                      exact ql_riret C0 hf hS dX11_longer_127
                    · have hf := (if_pos c10).symm.trans hf
                      refine lv_bipush (v := 11) hx hb dX11_longer_121 (by decide) ?_
                      refine lv_goto (tgt := 127) hx hb dX11_longer_123 (by decide) ?_
                      exact ql_riret C0 hf hS dX11_longer_127
                  · have hf := (if_pos c9).symm.trans hf
                    refine lv_bipush (v := 10) hx hb dX11_longer_108 (by decide) ?_
                    refine lv_goto (tgt := 127) hx hb dX11_longer_110 (by decide) ?_
                    exact ql_riret C0 hf hS dX11_longer_127
                · have hf := (if_pos c8).symm.trans hf
                  refine lv_bipush (v := 9) hx hb dX11_longer_95 (by decide) ?_
                  refine lv_goto (tgt := 127) hx hb dX11_longer_97 (by decide) ?_
                  exact ql_riret C0 hf hS dX11_longer_127
              · have hf := (if_pos c7).symm.trans hf
                refine lv_bipush (v := 8) hx hb dX11_longer_82 (by decide) ?_
                refine lv_goto (tgt := 127) hx hb dX11_longer_84 (by decide) ?_
                exact ql_riret C0 hf hS dX11_longer_127
            · have hf := (if_pos c6).symm.trans hf
              refine lv_bipush (v := 7) hx hb dX11_longer_69 (by decide) ?_
              refine lv_goto (tgt := 127) hx hb dX11_longer_71 (by decide) ?_
              exact ql_riret C0 hf hS dX11_longer_127
          · have hf := (if_pos c5).symm.trans hf
            refine lv_bipush (v := 6) hx hb dX11_longer_56 (by decide) ?_
            refine lv_goto (tgt := 127) hx hb dX11_longer_58 (by decide) ?_
            exact ql_riret C0 hf hS dX11_longer_127
        · have hf := (if_pos c4).symm.trans hf
          refine lv_iconst (v := 5) hx hb dX11_longer_44 (by decide) ?_
          refine lv_goto (tgt := 127) hx hb dX11_longer_45 (by decide) ?_
          exact ql_riret C0 hf hS dX11_longer_127
      · have hf := (if_pos c3).symm.trans hf
        refine lv_iconst (v := 4) hx hb dX11_longer_32 (by decide) ?_
        refine lv_goto (tgt := 127) hx hb dX11_longer_33 (by decide) ?_
        exact ql_riret C0 hf hS dX11_longer_127
    · have hf := (if_pos c2).symm.trans hf
      refine lv_iconst (v := 3) hx hb dX11_longer_20 (by decide) ?_
      refine lv_goto (tgt := 127) hx hb dX11_longer_21 (by decide) ?_
      exact ql_riret C0 hf hS dX11_longer_127
  · have hf := (if_pos c1).symm.trans hf
    refine lv_iconst (v := 2) hx hb dX11_longer_8 (by decide) ?_
    refine lv_goto (tgt := 127) hx hb dX11_longer_9 (by decide) ?_
    exact ql_riret C0 hf hS dX11_longer_127
set_option maxRecDepth 100000 in
theorem c_X11_longer (l : Launch) (dC : Nat → ClassId) (dI : Nat → Nat → Nat) (N : Nat) (x0 : Int64) (res : Int32) (hf : f_X11_longer N x0 = some res) : ql_Ri l yX11_longer wsX11_longer rm_X11_longer (dC, dI) [] ([]) [.long x0] res :=
  ql_start_ri (by decide) rfl (Nat.le_of_ble_eq_true rfl) (fun p e s m below meth c A ls C0 hl hP hS => w_X11_longer_0 C0 N x0 hf s.heap [] ls hS (lv_sub (show lv_has ls 2 [(0, .long x0)] from hl) [0] rfl))
/-! ===== TestedLoopsModel.signOf(I)I ===== -/
abbrev rm_X11_signOf : Room := { frames := 0, cells := 0, slots := 0, locals := 0 }
theorem qd_X11_signOf : yX11_signOf.cls ≠ "java/lang/invoke/MethodHandle" ∧ yX11_signOf.cls ≠ "java/lang/invoke/VarHandle" ∧ (parseMethodDescriptor yX11_signOf.desc).map (fun d => d.parameters.length) = some 1 := by decide +kernel
def f_X11_signOf_0 (N : Nat) (x0 : Int32) : Option (Int32) := if x0 = 33 then some 22 else if x0 = 38 then some 21 else if x0 = 40 then some 23 else if x0 = 41 then some 24 else if x0 = 48 then some 17 else if x0 = 49 then some 18 else if x0 = 59 then some 19 else if x0 = 124 then some 20 else some 1
def f_X11_signOf (N : Nat) (x0 : Int32) : Option (Int32) := f_X11_signOf_0 N x0
set_option maxHeartbeats 4000000 in
set_option maxRecDepth 100000 in
theorem w_X11_signOf_0 {p : Program} {l : Launch} {e : Env} {s : State} {m : MethodId} {args : Array Value} {below : List Frame} {meth : Method} {c : Code} {dC : Nat → ClassId} {dI : Nat → Nat → Nat} {A : Nat → Prop} {res : Int32} (C0 : ql_C p s m args meth c cX11_signOf 1 (some .int) wsX11_signOf RX11 (dC, dI) [] A) (N : Nat) : ∀ (x0 : Int32), f_X11_signOf_0 N x0 = some res → ∀ (H : Heap) (locs : List Loc) (ls : Array Slot), va_S A s.heap H locs → lv_has ls 1 [(0, .int x0)] → W p l e rm_X11_signOf s m args below meth c H locs 0 0 (ql_Qri below A args s res) (F0 m 0 ls []) := by
  have C0q := C0
  obtain ⟨hx, hb, hr, hml, hown, hts, hlocks, hK, hA⟩ := C0q
  intro x0 hf H locs ls hS hl
  unfold f_X11_signOf_0 at hf
  refine lv_iload_n hx hb dX11_signOf_0 rfl (lv_at hl 0 rfl) ?_
  by_cases c1 : x0 = 33
  · have hf := (if_pos c1).symm.trans hf
    refine lv_lookup (tgt := 91) (off := 90) hx hb dX11_signOf_1 (by decide) (by rw [c1]; decide) (by decide) ?_
    refine lv_bipush (v := 22) hx hb dX11_signOf_91 (by decide) ?_
    exact ql_riret C0 hf hS dX11_signOf_93
  have hf := (if_neg c1).symm.trans hf
  by_cases c2 : x0 = 38
  · have hf := (if_pos c2).symm.trans hf
    refine lv_lookup (tgt := 88) (off := 87) hx hb dX11_signOf_1 (by decide) (by rw [c2]; decide) (by decide) ?_
    refine lv_bipush (v := 21) hx hb dX11_signOf_88 (by decide) ?_
    exact ql_riret C0 hf hS dX11_signOf_90
  have hf := (if_neg c2).symm.trans hf
  by_cases c3 : x0 = 40
  · have hf := (if_pos c3).symm.trans hf
    refine lv_lookup (tgt := 94) (off := 93) hx hb dX11_signOf_1 (by decide) (by rw [c3]; decide) (by decide) ?_
    refine lv_bipush (v := 23) hx hb dX11_signOf_94 (by decide) ?_
    exact ql_riret C0 hf hS dX11_signOf_96
  have hf := (if_neg c3).symm.trans hf
  by_cases c4 : x0 = 41
  · have hf := (if_pos c4).symm.trans hf
    refine lv_lookup (tgt := 97) (off := 96) hx hb dX11_signOf_1 (by decide) (by rw [c4]; decide) (by decide) ?_
    refine lv_bipush (v := 24) hx hb dX11_signOf_97 (by decide) ?_
    exact ql_riret C0 hf hS dX11_signOf_99
  have hf := (if_neg c4).symm.trans hf
  by_cases c5 : x0 = 48
  · have hf := (if_pos c5).symm.trans hf
    refine lv_lookup (tgt := 76) (off := 75) hx hb dX11_signOf_1 (by decide) (by rw [c5]; decide) (by decide) ?_
    refine lv_bipush (v := 17) hx hb dX11_signOf_76 (by decide) ?_
    exact ql_riret C0 hf hS dX11_signOf_78
  have hf := (if_neg c5).symm.trans hf
  by_cases c6 : x0 = 49
  · have hf := (if_pos c6).symm.trans hf
    refine lv_lookup (tgt := 79) (off := 78) hx hb dX11_signOf_1 (by decide) (by rw [c6]; decide) (by decide) ?_
    refine lv_bipush (v := 18) hx hb dX11_signOf_79 (by decide) ?_
    exact ql_riret C0 hf hS dX11_signOf_81
  have hf := (if_neg c6).symm.trans hf
  by_cases c7 : x0 = 59
  · have hf := (if_pos c7).symm.trans hf
    refine lv_lookup (tgt := 82) (off := 81) hx hb dX11_signOf_1 (by decide) (by rw [c7]; decide) (by decide) ?_
    refine lv_bipush (v := 19) hx hb dX11_signOf_82 (by decide) ?_
    exact ql_riret C0 hf hS dX11_signOf_84
  have hf := (if_neg c7).symm.trans hf
  by_cases c8 : x0 = 124
  · have hf := (if_pos c8).symm.trans hf
    refine lv_lookup (tgt := 85) (off := 84) hx hb dX11_signOf_1 (by decide) (by rw [c8]; decide) (by decide) ?_
    refine lv_bipush (v := 20) hx hb dX11_signOf_85 (by decide) ?_
    exact ql_riret C0 hf hS dX11_signOf_87
  have hf := (if_neg c8).symm.trans hf
  have ec1 : x0.toInt ≠ 33 := ql_ne (k := 33) c1
  have ec2 : x0.toInt ≠ 38 := ql_ne (k := 38) c2
  have ec3 : x0.toInt ≠ 40 := ql_ne (k := 40) c3
  have ec4 : x0.toInt ≠ 41 := ql_ne (k := 41) c4
  have ec5 : x0.toInt ≠ 48 := ql_ne (k := 48) c5
  have ec6 : x0.toInt ≠ 49 := ql_ne (k := 49) c6
  have ec7 : x0.toInt ≠ 59 := ql_ne (k := 59) c7
  have ec8 : x0.toInt ≠ 124 := ql_ne (k := 124) c8
  refine lv_lookup (tgt := 100) (off := 99) hx hb dX11_signOf_1 (by decide) (by simp [Op.lookupswitch.offset, ec1.symm, ec2.symm, ec3.symm, ec4.symm, ec5.symm, ec6.symm, ec7.symm, ec8.symm]) (by decide) ?_
  refine lv_iconst (v := 1) hx hb dX11_signOf_100 (by decide) ?_
  exact ql_riret C0 hf hS dX11_signOf_101
set_option maxRecDepth 100000 in
theorem c_X11_signOf (l : Launch) (dC : Nat → ClassId) (dI : Nat → Nat → Nat) (N : Nat) (x0 : Int32) (res : Int32) (hf : f_X11_signOf N x0 = some res) : ql_Ri l yX11_signOf wsX11_signOf rm_X11_signOf (dC, dI) [] ([]) [.int x0] res :=
  ql_start_ri (by decide) rfl (Nat.le_of_ble_eq_true rfl) (fun p e s m below meth c A ls C0 hl hP hS => w_X11_signOf_0 C0 N x0 hf s.heap [] ls hS (lv_sub (show lv_has ls 1 [(0, .int x0)] from hl) [0] rfl))
/-! ===== TestedLoopsModel.atomsOf(I)I ===== -/
abbrev rm_X11_atomsOf : Room := { frames := 0, cells := 0, slots := 0, locals := 0 }
theorem qd_X11_atomsOf : yX11_atomsOf.cls ≠ "java/lang/invoke/MethodHandle" ∧ yX11_atomsOf.cls ≠ "java/lang/invoke/VarHandle" ∧ (parseMethodDescriptor yX11_atomsOf.desc).map (fun d => d.parameters.length) = some 1 := by decide +kernel
def f_X11_atomsOf_0 (N : Nat) (x0 : Int32) : Option (Int32) := if x0 = 12 then some 10 else if x0 = 13 then some 12 else if x0 = 18 then some 15 else some 0
def f_X11_atomsOf (N : Nat) (x0 : Int32) : Option (Int32) := f_X11_atomsOf_0 N x0
set_option maxHeartbeats 4000000 in
set_option maxRecDepth 100000 in
theorem w_X11_atomsOf_0 {p : Program} {l : Launch} {e : Env} {s : State} {m : MethodId} {args : Array Value} {below : List Frame} {meth : Method} {c : Code} {dC : Nat → ClassId} {dI : Nat → Nat → Nat} {A : Nat → Prop} {res : Int32} (C0 : ql_C p s m args meth c cX11_atomsOf 1 (some .int) wsX11_atomsOf RX11 (dC, dI) [] A) (N : Nat) : ∀ (x0 : Int32), f_X11_atomsOf_0 N x0 = some res → ∀ (H : Heap) (locs : List Loc) (ls : Array Slot), va_S A s.heap H locs → lv_has ls 1 [(0, .int x0)] → W p l e rm_X11_atomsOf s m args below meth c H locs 0 0 (ql_Qri below A args s res) (F0 m 0 ls []) := by
  have C0q := C0
  obtain ⟨hx, hb, hr, hml, hown, hts, hlocks, hK, hA⟩ := C0q
  intro x0 hf H locs ls hS hl
  unfold f_X11_atomsOf_0 at hf
  refine lv_iload_n hx hb dX11_atomsOf_0 rfl (lv_at hl 0 rfl) ?_
  refine lv_bipush (v := 12) hx hb dX11_atomsOf_1 (by decide) ?_
  refine lv_icmp_ne (tgt := 11) hx hb dX11_atomsOf_3 (by decide) (fun c1 => ?_) (fun c1 => ?_)
  · have hf := (if_neg c1).symm.trans hf
    refine lv_iload_n hx hb dX11_atomsOf_11 rfl (lv_at hl 0 rfl) ?_
    refine lv_bipush (v := 13) hx hb dX11_atomsOf_12 (by decide) ?_
    refine lv_icmp_ne (tgt := 22) hx hb dX11_atomsOf_14 (by decide) (fun c2 => ?_) (fun c2 => ?_)
    · have hf := (if_neg c2).symm.trans hf
      refine lv_iload_n hx hb dX11_atomsOf_22 rfl (lv_at hl 0 rfl) ?_
      refine lv_bipush (v := 18) hx hb dX11_atomsOf_23 (by decide) ?_
      refine lv_icmp_ne (tgt := 33) hx hb dX11_atomsOf_25 (by decide) (fun c3 => ?_) (fun c3 => ?_)
      · have hf := (if_neg c3).symm.trans hf
        refine lv_iconst (v := 0) hx hb dX11_atomsOf_33 (by decide) ?_
        exact ql_riret C0 hf hS dX11_atomsOf_34
      · have hf := (if_pos c3).symm.trans hf
        refine lv_bipush (v := 15) hx hb dX11_atomsOf_28 (by decide) ?_
        refine lv_goto (tgt := 34) hx hb dX11_atomsOf_30 (by decide) ?_
        exact ql_riret C0 hf hS dX11_atomsOf_34
    · have hf := (if_pos c2).symm.trans hf
      refine lv_bipush (v := 12) hx hb dX11_atomsOf_17 (by decide) ?_
      refine lv_goto (tgt := 34) hx hb dX11_atomsOf_19 (by decide) ?_
      exact ql_riret C0 hf hS dX11_atomsOf_34
  · have hf := (if_pos c1).symm.trans hf
    refine lv_bipush (v := 10) hx hb dX11_atomsOf_6 (by decide) ?_
    refine lv_goto (tgt := 34) hx hb dX11_atomsOf_8 (by decide) ?_
    exact ql_riret C0 hf hS dX11_atomsOf_34
set_option maxRecDepth 100000 in
theorem c_X11_atomsOf (l : Launch) (dC : Nat → ClassId) (dI : Nat → Nat → Nat) (N : Nat) (x0 : Int32) (res : Int32) (hf : f_X11_atomsOf N x0 = some res) : ql_Ri l yX11_atomsOf wsX11_atomsOf rm_X11_atomsOf (dC, dI) [] ([]) [.int x0] res :=
  ql_start_ri (by decide) rfl (Nat.le_of_ble_eq_true rfl) (fun p e s m below meth c A ls C0 hl hP hS => w_X11_atomsOf_0 C0 N x0 hf s.heap [] ls hS (lv_sub (show lv_has ls 1 [(0, .int x0)] from hl) [0] rfl))
/-! ===== TestedLoopsModel.sizeOf(I)I ===== -/
abbrev rm_X11_sizeOf : Room := { frames := 0, cells := 0, slots := 0, locals := 0 }
theorem qd_X11_sizeOf : yX11_sizeOf.cls ≠ "java/lang/invoke/MethodHandle" ∧ yX11_sizeOf.cls ≠ "java/lang/invoke/VarHandle" ∧ (parseMethodDescriptor yX11_sizeOf.desc).map (fun d => d.parameters.length) = some 1 := by decide +kernel
def f_X11_sizeOf_0 (N : Nat) (x0 : Int32) : Option (Int32) := some ((((x0 &&& 1) + ((x0 >>> ((1 : Int32) &&& 31)) &&& 1)) + ((x0 >>> ((2 : Int32) &&& 31)) &&& 1)) + ((x0 >>> ((3 : Int32) &&& 31)) &&& 1))
def f_X11_sizeOf (N : Nat) (x0 : Int32) : Option (Int32) := f_X11_sizeOf_0 N x0
set_option maxHeartbeats 4000000 in
set_option maxRecDepth 100000 in
theorem w_X11_sizeOf_0 {p : Program} {l : Launch} {e : Env} {s : State} {m : MethodId} {args : Array Value} {below : List Frame} {meth : Method} {c : Code} {dC : Nat → ClassId} {dI : Nat → Nat → Nat} {A : Nat → Prop} {res : Int32} (C0 : ql_C p s m args meth c cX11_sizeOf 1 (some .int) wsX11_sizeOf RX11 (dC, dI) [] A) (N : Nat) : ∀ (x0 : Int32), f_X11_sizeOf_0 N x0 = some res → ∀ (H : Heap) (locs : List Loc) (ls : Array Slot), va_S A s.heap H locs → lv_has ls 1 [(0, .int x0)] → W p l e rm_X11_sizeOf s m args below meth c H locs 0 0 (ql_Qri below A args s res) (F0 m 0 ls []) := by
  have C0q := C0
  obtain ⟨hx, hb, hr, hml, hown, hts, hlocks, hK, hA⟩ := C0q
  intro x0 hf H locs ls hS hl
  unfold f_X11_sizeOf_0 at hf
  refine lv_iload_n hx hb dX11_sizeOf_0 rfl (lv_at hl 0 rfl) ?_
  refine lv_iconst (v := 1) hx hb dX11_sizeOf_1 (by decide) ?_
  refine lv_iand hx hb dX11_sizeOf_2 ?_
  refine lv_iload_n hx hb dX11_sizeOf_3 rfl (lv_at hl 0 rfl) ?_
  refine lv_iconst (v := 1) hx hb dX11_sizeOf_4 (by decide) ?_
  refine lv_ishr hx hb dX11_sizeOf_5 ?_
  refine lv_iconst (v := 1) hx hb dX11_sizeOf_6 (by decide) ?_
  refine lv_iand hx hb dX11_sizeOf_7 ?_
  refine lv_iadd hx hb dX11_sizeOf_8 ?_
  refine lv_iload_n hx hb dX11_sizeOf_9 rfl (lv_at hl 0 rfl) ?_
  refine lv_iconst (v := 2) hx hb dX11_sizeOf_10 (by decide) ?_
  refine lv_ishr hx hb dX11_sizeOf_11 ?_
  refine lv_iconst (v := 1) hx hb dX11_sizeOf_12 (by decide) ?_
  refine lv_iand hx hb dX11_sizeOf_13 ?_
  refine lv_iadd hx hb dX11_sizeOf_14 ?_
  refine lv_iload_n hx hb dX11_sizeOf_15 rfl (lv_at hl 0 rfl) ?_
  refine lv_iconst (v := 3) hx hb dX11_sizeOf_16 (by decide) ?_
  refine lv_ishr hx hb dX11_sizeOf_17 ?_
  refine lv_iconst (v := 1) hx hb dX11_sizeOf_18 (by decide) ?_
  refine lv_iand hx hb dX11_sizeOf_19 ?_
  refine lv_iadd hx hb dX11_sizeOf_20 ?_
  exact ql_riret C0 hf hS dX11_sizeOf_21
set_option maxRecDepth 100000 in
theorem c_X11_sizeOf (l : Launch) (dC : Nat → ClassId) (dI : Nat → Nat → Nat) (N : Nat) (x0 : Int32) (res : Int32) (hf : f_X11_sizeOf N x0 = some res) : ql_Ri l yX11_sizeOf wsX11_sizeOf rm_X11_sizeOf (dC, dI) [] ([]) [.int x0] res :=
  ql_start_ri (by decide) rfl (Nat.le_of_ble_eq_true rfl) (fun p e s m below meth c A ls C0 hl hP hS => w_X11_sizeOf_0 C0 N x0 hf s.heap [] ls hS (lv_sub (show lv_has ls 1 [(0, .int x0)] from hl) [0] rfl))
/-! ===== TestedLoopsModel.arePrograms(II)Z ===== -/
abbrev rm_X11_arePrograms : Room := { frames := 2, cells := 0, slots := 0, locals := 45 }
theorem qd_X11_arePrograms : yX11_arePrograms.cls ≠ "java/lang/invoke/MethodHandle" ∧ yX11_arePrograms.cls ≠ "java/lang/invoke/VarHandle" ∧ (parseMethodDescriptor yX11_arePrograms.desc).map (fun d => d.parameters.length) = some 2 := by decide +kernel
def f_X11_arePrograms_0 (N : Nat) (x0 : Int32) (x1 : Int32) : Option (Int32) := (f_X11_isProgram N x0).bind fun u1 => if u1 = 0 then some 0 else (f_X11_isProgram N x1).bind fun u3 => if u3 = 0 then some 0 else some 1
def f_X11_arePrograms (N : Nat) (x0 : Int32) (x1 : Int32) : Option (Int32) := f_X11_arePrograms_0 N x0 x1
set_option maxHeartbeats 4000000 in
set_option maxRecDepth 100000 in
theorem w_X11_arePrograms_0 {p : Program} {l : Launch} {e : Env} {s : State} {m : MethodId} {args : Array Value} {below : List Frame} {meth : Method} {c : Code} {dC : Nat → ClassId} {dI : Nat → Nat → Nat} {A : Nat → Prop} {res : Int32} (C0 : ql_C p s m args meth c cX11_arePrograms 2 (some .boolean) wsX11_arePrograms RX11 (dC, dI) [] A) (N : Nat) : ∀ (x0 : Int32) (x1 : Int32), f_X11_arePrograms_0 N x0 x1 = some res → ∀ (H : Heap) (locs : List Loc) (ls : Array Slot), va_S A s.heap H locs → lv_has ls 2 [(0, .int x0), (1, .int x1)] → W p l e rm_X11_arePrograms s m args below meth c H locs 0 0 (ql_Qri below A args s res) (F0 m 0 ls []) := by
  have C0q := C0
  obtain ⟨hx, hb, hr, hml, hown, hts, hlocks, hK, hA⟩ := C0q
  intro x0 x1 hf H locs ls hS hl
  unfold f_X11_arePrograms_0 at hf
  refine lv_iload_n hx hb dX11_arePrograms_0 rfl (lv_at hl 0 rfl) ?_
  obtain ⟨u1, hu1, hf⟩ := ql_bd hf
  refine ql_callRSi (As := [.int x0]) (rest := []) C0 (c_X11_isProgram l dC dI N x0 u1 hu1) (va_cwS 1 hts gX11_arePrograms_X11_isProgram rfl rfl rfl qd_X11_isProgram ⟨Nat.le_of_ble_eq_true rfl, Nat.le_of_ble_eq_true rfl⟩) (hK.sub [] rfl) ql_nil hS hl.1 rfl rfl (Nat.le_of_ble_eq_true rfl) dX11_arePrograms_1 (fun H1 locs hk hS => ?_)
  refine lv_if_eq (tgt := 18) hx hb dX11_arePrograms_4 (by decide) (fun c2 => ?_) (fun c2 => ?_)
  · have hf := (if_pos c2).symm.trans hf
    refine lv_iconst (v := 0) hx hb dX11_arePrograms_18 (by decide) ?_
    exact ql_rzret C0 (Or.inl rfl) hf hS dX11_arePrograms_19
  · have hf := (if_neg c2).symm.trans hf
    refine lv_iload_n hx hb dX11_arePrograms_7 rfl (lv_at hl 1 rfl) ?_
    obtain ⟨u3, hu3, hf⟩ := ql_bd hf
    refine ql_callRSi (As := [.int x1]) (rest := []) C0 (c_X11_isProgram l dC dI N x1 u3 hu3) (va_cwS 1 hts gX11_arePrograms_X11_isProgram rfl rfl rfl qd_X11_isProgram ⟨Nat.le_of_ble_eq_true rfl, Nat.le_of_ble_eq_true rfl⟩) (hK.sub [] rfl) ql_nil hS hl.1 rfl rfl (Nat.le_of_ble_eq_true rfl) dX11_arePrograms_8 (fun H1 locs hk hS => ?_)
    refine lv_if_eq (tgt := 18) hx hb dX11_arePrograms_11 (by decide) (fun c4 => ?_) (fun c4 => ?_)
    · have hf := (if_pos c4).symm.trans hf
      refine lv_iconst (v := 0) hx hb dX11_arePrograms_18 (by decide) ?_
      exact ql_rzret C0 (Or.inl rfl) hf hS dX11_arePrograms_19
    · have hf := (if_neg c4).symm.trans hf
      refine lv_iconst (v := 1) hx hb dX11_arePrograms_14 (by decide) ?_
      refine lv_goto (tgt := 19) hx hb dX11_arePrograms_15 (by decide) ?_
      exact ql_rzret C0 (Or.inr rfl) hf hS dX11_arePrograms_19
set_option maxRecDepth 100000 in
theorem c_X11_arePrograms (l : Launch) (dC : Nat → ClassId) (dI : Nat → Nat → Nat) (N : Nat) (x0 : Int32) (x1 : Int32) (res : Int32) (hf : f_X11_arePrograms N x0 x1 = some res) : ql_Ri l yX11_arePrograms wsX11_arePrograms rm_X11_arePrograms (dC, dI) [] ([]) [.int x0, .int x1] res :=
  ql_start_ri (by decide) rfl (Nat.le_of_ble_eq_true rfl) (fun p e s m below meth c A ls C0 hl hP hS => w_X11_arePrograms_0 C0 N x0 x1 hf s.heap [] ls hS (lv_sub (show lv_has ls 2 [(0, .int x0), (1, .int x1)] from hl) [0, 1] rfl))
/-! ===== TestedLoopsModel.isSet(I)Z ===== -/
abbrev rm_X11_isSet : Room := { frames := 1, cells := 0, slots := 0, locals := 25 }
theorem qd_X11_isSet : yX11_isSet.cls ≠ "java/lang/invoke/MethodHandle" ∧ yX11_isSet.cls ≠ "java/lang/invoke/VarHandle" ∧ (parseMethodDescriptor yX11_isSet.desc).map (fun d => d.parameters.length) = some 1 := by decide +kernel
def f_X11_isSet_0 (N : Nat) (x0 : Int32) : Option (Int32) := (f_X11_in N x0.toInt64 0 15).bind fun u1 => if ql_bz u1 = true then some u1 else none
def f_X11_isSet (N : Nat) (x0 : Int32) : Option (Int32) := f_X11_isSet_0 N x0
set_option maxHeartbeats 4000000 in
set_option maxRecDepth 100000 in
theorem w_X11_isSet_0 {p : Program} {l : Launch} {e : Env} {s : State} {m : MethodId} {args : Array Value} {below : List Frame} {meth : Method} {c : Code} {dC : Nat → ClassId} {dI : Nat → Nat → Nat} {A : Nat → Prop} {res : Int32} (C0 : ql_C p s m args meth c cX11_isSet 1 (some .boolean) wsX11_isSet RX11 (dC, dI) [] A) (N : Nat) : ∀ (x0 : Int32), f_X11_isSet_0 N x0 = some res → ∀ (H : Heap) (locs : List Loc) (ls : Array Slot), va_S A s.heap H locs → lv_has ls 1 [(0, .int x0)] → W p l e rm_X11_isSet s m args below meth c H locs 0 0 (ql_Qri below A args s res) (F0 m 0 ls []) := by
  have C0q := C0
  obtain ⟨hx, hb, hr, hml, hown, hts, hlocks, hK, hA⟩ := C0q
  have fl288 := hts (Cond.constantLong RX11 288 (15)) (by decide +kernel)
  intro x0 hf H locs ls hS hl
  unfold f_X11_isSet_0 at hf
  refine lv_iload_n hx hb dX11_isSet_0 rfl (lv_at hl 0 rfl) ?_
  refine lv_i2l hx hb dX11_isSet_1 rfl ?_
  refine lv_lconst (v := 0) hx hb dX11_isSet_2 (by decide) ?_
  refine lv_ldc2 hx hb hown fl288 dX11_isSet_3 ?_
  obtain ⟨u1, hu1, hf⟩ := ql_bd hf
  refine ql_callRSi (As := [.long x0.toInt64, .long 0, .long 15]) (rest := []) C0 (c_X11_in l dC dI N x0.toInt64 0 15 u1 hu1) (va_cwS 3 hts gX11_isSet_X11_in rfl rfl rfl qd_X11_in ⟨Nat.le_of_ble_eq_true rfl, Nat.le_of_ble_eq_true rfl⟩) (hK.sub [] rfl) ql_nil hS hl.1 rfl rfl (Nat.le_of_ble_eq_true rfl) dX11_isSet_6 (fun H1 locs hk hS => ?_)
  exact ql_rzret C0 (ql_bzo (ql_gt hf)) (ql_gx hf) hS dX11_isSet_9
set_option maxRecDepth 100000 in
theorem c_X11_isSet (l : Launch) (dC : Nat → ClassId) (dI : Nat → Nat → Nat) (N : Nat) (x0 : Int32) (res : Int32) (hf : f_X11_isSet N x0 = some res) : ql_Ri l yX11_isSet wsX11_isSet rm_X11_isSet (dC, dI) [] ([]) [.int x0] res :=
  ql_start_ri (by decide) rfl (Nat.le_of_ble_eq_true rfl) (fun p e s m below meth c A ls C0 hl hP hS => w_X11_isSet_0 C0 N x0 hf s.heap [] ls hS (lv_sub (show lv_has ls 1 [(0, .int x0)] from hl) [0] rfl))
