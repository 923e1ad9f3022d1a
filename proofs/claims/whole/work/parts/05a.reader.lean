abbrev ql_Y : Type := ql_St × ql_St
def ql_rc (h : Nat) (ad : Nat → Nat) (hp : Nat) (cI : ClassId) (z : ql_St) : va_W := [(h, .inr (7, [.ref (ad 0), .ref (ad 1), .int (z 2 0), .int (z 3 0), .ref hp])), (ad 0, .inl (cI, 301, .inl (z 0))), (ad 1, .inl (cI, 301, .inl (z 1)))]
def ql_rw (h : Nat) (ad : Nat → Nat) (hp : Nat) (pad : Nat → Nat) (cI : ClassId) (z : ql_Y) : va_W := ql_rc h ad hp cI z.1 ++ ql_pw hp pad cI z.2
/-! ===== TestedLoops$Reader.token()I ===== -/
abbrev rm_X7_token : Room := { frames := 0, cells := 0, slots := 0, locals := 0 }
theorem iw_X7_token_X7 : ∀ w ∈ wsX70, w ∈ wsX7_token := fun w h => List.mem_cons_of_mem _ (List.mem_append_right _ h)
theorem qv_X7_token : yX7_token.cls = RX7 ∧ yX7_token.cls ≠ "java/lang/invoke/MethodHandle" ∧ yX7_token.cls ≠ "java/lang/invoke/VarHandle" ∧ (parseMethodDescriptor yX7_token.desc).map (fun d => d.parameters.length) = some 0 := by decide +kernel
def f_X7_token_0 (N : Nat) (z : ql_Y) : Option (Int32) := if 301 ≤ (z.1 2 0) then some 23 else if ql_ib (z.1 2 0) 301 = true then some ((z.1 0) (z.1 2 0).toNatClampNeg) else none
def f_X7_token (N : Nat) (z : ql_Y) : Option (Int32) := f_X7_token_0 N z
set_option maxHeartbeats 4000000 in
set_option maxRecDepth 100000 in
theorem w_X7_token_0 {p : Program} {l : Launch} {e : Env} {s : State} {m : MethodId} {args : Array Value} {below : List Frame} {meth : Method} {c : Code} {dC : Nat → ClassId} {dI : Nat → Nat → Nat} {A : Nat → Prop} {h : Nat} {ad : Nat → Nat} {hp : Nat} {pad : Nat → Nat} {cI : ClassId} {res : Int32} (C0 : ql_C p s m args meth c cX7_token 1 (some .int) wsX7_token RX7 (dC, dI) [(cI, .int)] A) (N : Nat) (z : ql_Y) : f_X7_token_0 N z = some res → ∀ (H : Heap) (locs : List Loc) (ls : Array Slot), va_P (dC, dI) vwCl ((ql_rw h ad hp pad cI) z) H → va_S A s.heap H locs → lv_has ls 1 [(0, .ref h)] → W p l e rm_X7_token s m args below meth c H locs 0 0 (ql_Qri below A args s res) (F0 m 0 ls []) := by
  have C0q := C0
  obtain ⟨hx, hb, hr, hml, hown, hts, hlocks, hK, hA⟩ := C0q
  have fl38 := hts (Cond.fieldLink RX7 38 "TestedLoops$Reader" "now" "I") (by decide +kernel)
  have fl9 := hts (Cond.fieldLink RX7 9 "TestedLoops$Reader" "tokens" "[I") (by decide +kernel)
  intro hf H locs ls hP hS hl
  unfold f_X7_token_0 at hf
  refine lv_aload_n hx hb dX7_token_0 rfl (lv_at hl 0 rfl) ?_
  refine va_get (D := (dC, dI)) (ci := 7) (v := .int (z.1 2 0)) (C := RX7) (T := TX7) (N := 5) hx hb hts iw_X7_token_X7 hown hK.1 hP 0 rfl rfl 2 (by decide) fl38 (fun _ h9 => h9) rfl dX7_token_1 ?_
  refine lv_aload_n hx hb dX7_token_4 rfl (lv_at hl 0 rfl) ?_
  refine va_get (D := (dC, dI)) (ci := 7) (v := .ref (ad 0)) (C := RX7) (T := TX7) (N := 5) hx hb hts iw_X7_token_X7 hown hK.1 hP 0 rfl rfl 0 (by decide) fl9 (fun _ h9 => h9) rfl dX7_token_5 ?_
  refine va_alen (v := 301) hx hb hK.1 hP 1 0 rfl rfl (show Int32.ofNat 301 = 301 by decide) dX7_token_8 ?_
  refine lv_icmp_ge (tgt := 24) hx hb dX7_token_9 (by decide) (fun c1 => ?_) (fun c1 => ?_)
  · have hf := (if_pos c1).symm.trans hf
    refine lv_bipush (v := 23) hx hb dX7_token_24 (by decide) ?_
    exact ql_riret C0 hf hS dX7_token_26
  · have hf := (if_neg c1).symm.trans hf
    refine lv_aload_n hx hb dX7_token_12 rfl (lv_at hl 0 rfl) ?_
    refine va_get (D := (dC, dI)) (ci := 7) (v := .ref (ad 0)) (C := RX7) (T := TX7) (N := 5) hx hb hts iw_X7_token_X7 hown hK.1 hP 0 rfl rfl 0 (by decide) fl9 (fun _ h9 => h9) rfl dX7_token_13 ?_
    refine lv_aload_n hx hb dX7_token_16 rfl (lv_at hl 0 rfl) ?_
    refine va_get (D := (dC, dI)) (ci := 7) (v := .int (z.1 2 0)) (C := RX7) (T := TX7) (N := 5) hx hb hts iw_X7_token_X7 hown hK.1 hP 0 rfl rfl 2 (by decide) fl38 (fun _ h9 => h9) rfl dX7_token_17 ?_
    have g0 := ql_in (ql_gt hf)
    have hf := ql_gx hf
    refine va_iald (f := (z.1 0)) hx hb hK.1 hP 1 0 rfl rfl g0 dX7_token_20 ?_
    refine lv_goto (tgt := 26) hx hb dX7_token_21 (by decide) ?_
    exact ql_riret C0 hf hS dX7_token_26
set_option maxRecDepth 100000 in
theorem c_X7_token (l : Launch) (dC : Nat → ClassId) (dI : Nat → Nat → Nat) (h : Nat) (ad : Nat → Nat) (hp : Nat) (pad : Nat → Nat) (cI : ClassId) (N : Nat) (z : ql_Y) (res : Int32) (hf : f_X7_token N z = some res) : ql_Ri l yX7_token wsX7_token rm_X7_token (dC, dI) [(cI, .int)] ((ql_rw h ad hp pad cI) z) [.ref h] res :=
  ql_start_ri (by decide) rfl (Nat.le_of_ble_eq_true rfl) (fun p e s m below meth c A ls C0 hl hP hS => w_X7_token_0 C0 N z hf s.heap [] ls hP hS (lv_sub (show lv_has ls 1 [(0, .ref h)] from hl) [0] rfl))
/-! ===== TestedLoops$Reader.refuse()Z ===== -/
abbrev rm_X7_refuse : Room := { frames := 0, cells := 0, slots := 0, locals := 0 }
theorem iw_X7_refuse_X7 : ∀ w ∈ wsX70, w ∈ wsX7_refuse := fun w h => List.mem_cons_of_mem _ (List.mem_append_right _ h)
theorem qv_X7_refuse : yX7_refuse.cls = RX7 ∧ yX7_refuse.cls ≠ "java/lang/invoke/MethodHandle" ∧ yX7_refuse.cls ≠ "java/lang/invoke/VarHandle" ∧ (parseMethodDescriptor yX7_refuse.desc).map (fun d => d.parameters.length) = some 0 := by decide +kernel
def f_X7_refuse_28 (N : Nat) (z : ql_Y) (y0 : Int32) : Option (Int32 × ql_Y) := some (0, ((ql_up z.1 3 (fun _ => y0)), z.2))
def f_X7_refuse_0 (N : Nat) (z : ql_Y) : Option (Int32 × ql_Y) := if 301 ≤ (z.1 2 0) then f_X7_refuse_28 N z 300 else if ql_ib (z.1 2 0) 301 = true then f_X7_refuse_28 N z ((z.1 1) (z.1 2 0).toNatClampNeg) else none
def f_X7_refuse (N : Nat) (z : ql_Y) : Option (Int32 × ql_Y) := f_X7_refuse_0 N z
set_option maxHeartbeats 4000000 in
set_option maxRecDepth 100000 in
theorem w_X7_refuse_28 {p : Program} {l : Launch} {e : Env} {s : State} {m : MethodId} {args : Array Value} {below : List Frame} {meth : Method} {c : Code} {dC : Nat → ClassId} {dI : Nat → Nat → Nat} {A : Nat → Prop} {h : Nat} {ad : Nat → Nat} {hp : Nat} {pad : Nat → Nat} {cI : ClassId} {res : Int32 × ql_Y} (C0 : ql_C p s m args meth c cX7_refuse 1 (some .boolean) wsX7_refuse RX7 (dC, dI) [(cI, .int)] A) (N : Nat) : ∀ (z : ql_Y) (y0 : Int32), f_X7_refuse_28 N z y0 = some res → ∀ (H : Heap) (locs : List Loc) (ls : Array Slot), va_P (dC, dI) vwCl ((ql_rw h ad hp pad cI) z) H → va_D A ((ql_rw h ad hp pad cI) z) → va_S A s.heap H locs → lv_has ls 1 [(0, .ref h)] → W p l e rm_X7_refuse s m args below meth c H locs 0 0 (ql_Qi below (dC, dI) (ql_rw h ad hp pad cI) A args s res) (F0 m 28 ls [.int y0, .ref h]) := by
  have C0q := C0
  obtain ⟨hx, hb, hr, hml, hown, hts, hlocks, hK, hA⟩ := C0q
  have fl42 := hts (Cond.fieldLink RX7 42 "TestedLoops$Reader" "fault" "I") (by decide +kernel)
  intro z y0 hf H locs ls hP hD hS hl
  unfold f_X7_refuse_28 at hf
  refine va_put (D := (dC, dI)) (ci := 7) (v := .int y0) (ty := .int) (C := RX7) (T := TX7) (N := 5) hx hb hts iw_X7_refuse_X7 tyX7 tyX7_ok nmX7 hown hK.1 hP hD hS 0 rfl rfl 3 (by decide) fl42 (fun _ h9 => h9) rfl (by decide +kernel) rfl rfl (Nat.le_of_ble_eq_true rfl) dX7_refuse_28 (fun H locs hP hD hS => ?_)
  refine lv_iconst (v := 0) hx hb dX7_refuse_31 (by decide) ?_
  exact ql_zret C0 (Or.inl rfl) hf hP hD hS dX7_refuse_32
set_option maxHeartbeats 4000000 in
set_option maxRecDepth 100000 in
theorem w_X7_refuse_0 {p : Program} {l : Launch} {e : Env} {s : State} {m : MethodId} {args : Array Value} {below : List Frame} {meth : Method} {c : Code} {dC : Nat → ClassId} {dI : Nat → Nat → Nat} {A : Nat → Prop} {h : Nat} {ad : Nat → Nat} {hp : Nat} {pad : Nat → Nat} {cI : ClassId} {res : Int32 × ql_Y} (C0 : ql_C p s m args meth c cX7_refuse 1 (some .boolean) wsX7_refuse RX7 (dC, dI) [(cI, .int)] A) (N : Nat) : ∀ (z : ql_Y), f_X7_refuse_0 N z = some res → ∀ (H : Heap) (locs : List Loc) (ls : Array Slot), va_P (dC, dI) vwCl ((ql_rw h ad hp pad cI) z) H → va_D A ((ql_rw h ad hp pad cI) z) → va_S A s.heap H locs → lv_has ls 1 [(0, .ref h)] → W p l e rm_X7_refuse s m args below meth c H locs 0 0 (ql_Qi below (dC, dI) (ql_rw h ad hp pad cI) A args s res) (F0 m 0 ls []) := by
  have C0q := C0
  obtain ⟨hx, hb, hr, hml, hown, hts, hlocks, hK, hA⟩ := C0q
  have fl38 := hts (Cond.fieldLink RX7 38 "TestedLoops$Reader" "now" "I") (by decide +kernel)
  have fl15 := hts (Cond.fieldLink RX7 15 "TestedLoops$Reader" "begins" "[I") (by decide +kernel)
  intro z hf H locs ls hP hD hS hl
  unfold f_X7_refuse_0 at hf
  refine lv_aload_n hx hb dX7_refuse_0 rfl (lv_at hl 0 rfl) ?_
  refine lv_aload_n hx hb dX7_refuse_1 rfl (lv_at hl 0 rfl) ?_
  refine va_get (D := (dC, dI)) (ci := 7) (v := .int (z.1 2 0)) (C := RX7) (T := TX7) (N := 5) hx hb hts iw_X7_refuse_X7 hown hK.1 hP 0 rfl rfl 2 (by decide) fl38 (fun _ h9 => h9) rfl dX7_refuse_2 ?_
  refine lv_aload_n hx hb dX7_refuse_5 rfl (lv_at hl 0 rfl) ?_
  refine va_get (D := (dC, dI)) (ci := 7) (v := .ref (ad 1)) (C := RX7) (T := TX7) (N := 5) hx hb hts iw_X7_refuse_X7 hown hK.1 hP 0 rfl rfl 1 (by decide) fl15 (fun _ h9 => h9) rfl dX7_refuse_6 ?_
  refine va_alen (v := 301) hx hb hK.1 hP 2 0 rfl rfl (show Int32.ofNat 301 = 301 by decide) dX7_refuse_9 ?_
  refine lv_icmp_ge (tgt := 25) hx hb dX7_refuse_10 (by decide) (fun c1 => ?_) (fun c1 => ?_)
  · have hf := (if_pos c1).symm.trans hf
    refine lv_sipush (v := 300) hx hb dX7_refuse_25 (by decide) ?_
    exact w_X7_refuse_28 C0 N _ _ hf _ _ _ hP hD hS (lv_sub hl [0] rfl)
  · have hf := (if_neg c1).symm.trans hf
    refine lv_aload_n hx hb dX7_refuse_13 rfl (lv_at hl 0 rfl) ?_
    refine va_get (D := (dC, dI)) (ci := 7) (v := .ref (ad 1)) (C := RX7) (T := TX7) (N := 5) hx hb hts iw_X7_refuse_X7 hown hK.1 hP 0 rfl rfl 1 (by decide) fl15 (fun _ h9 => h9) rfl dX7_refuse_14 ?_
    refine lv_aload_n hx hb dX7_refuse_17 rfl (lv_at hl 0 rfl) ?_
    refine va_get (D := (dC, dI)) (ci := 7) (v := .int (z.1 2 0)) (C := RX7) (T := TX7) (N := 5) hx hb hts iw_X7_refuse_X7 hown hK.1 hP 0 rfl rfl 2 (by decide) fl38 (fun _ h9 => h9) rfl dX7_refuse_18 ?_
    have g0 := ql_in (ql_gt hf)
    have hf := ql_gx hf
    refine va_iald (f := (z.1 1)) hx hb hK.1 hP 2 0 rfl rfl g0 dX7_refuse_21 ?_
    refine lv_goto (tgt := 28) hx hb dX7_refuse_22 (by decide) ?_
    exact w_X7_refuse_28 C0 N _ _ hf _ _ _ hP hD hS (lv_sub hl [0] rfl)
set_option maxRecDepth 100000 in
theorem c_X7_refuse (l : Launch) (dC : Nat → ClassId) (dI : Nat → Nat → Nat) (h : Nat) (ad : Nat → Nat) (hp : Nat) (pad : Nat → Nat) (cI : ClassId) (N : Nat) (z : ql_Y) (res : Int32 × ql_Y) (hf : f_X7_refuse N z = some res) : ql_Mi l yX7_refuse wsX7_refuse rm_X7_refuse (dC, dI) [(cI, .int)] (ql_rw h ad hp pad cI) [.ref h] z res :=
  ql_start_i (by decide) rfl (Nat.le_of_ble_eq_true rfl) (fun p e s m below meth c A ls C0 hl hP hD hS => w_X7_refuse_0 C0 N z hf s.heap [] ls hP hD hS (lv_sub (show lv_has ls 1 [(0, .ref h)] from hl) [0] rfl))
/-! ===== TestedLoops$Reader.isNow(I)Z ===== -/
abbrev rm_X7_isNow : Room := { frames := 1, cells := 0, slots := 0, locals := 20 }
theorem iw_X7_isNow_X7 : ∀ w ∈ wsX70, w ∈ wsX7_isNow := fun w h => List.mem_cons_of_mem _ (List.mem_append_right _ h)
theorem qv_X7_isNow : yX7_isNow.cls = RX7 ∧ yX7_isNow.cls ≠ "java/lang/invoke/MethodHandle" ∧ yX7_isNow.cls ≠ "java/lang/invoke/VarHandle" ∧ (parseMethodDescriptor yX7_isNow.desc).map (fun d => d.parameters.length) = some 1 := by decide +kernel
def f_X7_isNow_15 (N : Nat) (z : ql_Y) : Option (Int32 × ql_Y) := some (1, z)
def f_X7_isNow_0 (N : Nat) (z : ql_Y) (x1 : Int32) : Option (Int32 × ql_Y) := (f_X7_token N z).bind fun u1 => if u1 = x1 then f_X7_isNow_15 N z else (f_X7_refuse N z).bind fun u3 => if u3.1 = 0 then some (0, u3.2) else f_X7_isNow_15 N u3.2
def f_X7_isNow (N : Nat) (z : ql_Y) (x1 : Int32) : Option (Int32 × ql_Y) := f_X7_isNow_0 N z x1
set_option maxHeartbeats 4000000 in
set_option maxRecDepth 100000 in
theorem w_X7_isNow_15 {p : Program} {l : Launch} {e : Env} {s : State} {m : MethodId} {args : Array Value} {below : List Frame} {meth : Method} {c : Code} {dC : Nat → ClassId} {dI : Nat → Nat → Nat} {A : Nat → Prop} {h : Nat} {ad : Nat → Nat} {hp : Nat} {pad : Nat → Nat} {cI : ClassId} {res : Int32 × ql_Y} (C0 : ql_C p s m args meth c cX7_isNow 2 (some .boolean) wsX7_isNow RX7 (dC, dI) [(cI, .int)] A) (N : Nat) : ∀ (z : ql_Y), f_X7_isNow_15 N z = some res → ∀ (H : Heap) (locs : List Loc) (ls : Array Slot), va_P (dC, dI) vwCl ((ql_rw h ad hp pad cI) z) H → va_D A ((ql_rw h ad hp pad cI) z) → va_S A s.heap H locs → lv_has ls 2 [(0, .ref h)] → W p l e rm_X7_isNow s m args below meth c H locs 0 0 (ql_Qi below (dC, dI) (ql_rw h ad hp pad cI) A args s res) (F0 m 15 ls []) := by
  have C0q := C0
  obtain ⟨hx, hb, hr, hml, hown, hts, hlocks, hK, hA⟩ := C0q
  intro z hf H locs ls hP hD hS hl
  unfold f_X7_isNow_15 at hf
  refine lv_iconst (v := 1) hx hb dX7_isNow_15 (by decide) ?_
  refine lv_goto (tgt := 20) hx hb dX7_isNow_16 (by decide) ?_
  exact ql_zret C0 (Or.inr rfl) hf hP hD hS dX7_isNow_20
set_option maxHeartbeats 4000000 in
set_option maxRecDepth 100000 in
theorem w_X7_isNow_0 {p : Program} {l : Launch} {e : Env} {s : State} {m : MethodId} {args : Array Value} {below : List Frame} {meth : Method} {c : Code} {dC : Nat → ClassId} {dI : Nat → Nat → Nat} {A : Nat → Prop} {h : Nat} {ad : Nat → Nat} {hp : Nat} {pad : Nat → Nat} {cI : ClassId} {res : Int32 × ql_Y} (C0 : ql_C p s m args meth c cX7_isNow 2 (some .boolean) wsX7_isNow RX7 (dC, dI) [(cI, .int)] A) (N : Nat) : ∀ (z : ql_Y) (x1 : Int32), f_X7_isNow_0 N z x1 = some res → ∀ (H : Heap) (locs : List Loc) (ls : Array Slot), va_P (dC, dI) vwCl ((ql_rw h ad hp pad cI) z) H → va_D A ((ql_rw h ad hp pad cI) z) → va_S A s.heap H locs → lv_has ls 2 [(0, .ref h), (1, .int x1)] → W p l e rm_X7_isNow s m args below meth c H locs 0 0 (ql_Qi below (dC, dI) (ql_rw h ad hp pad cI) A args s res) (F0 m 0 ls []) := by
  have C0q := C0
  obtain ⟨hx, hb, hr, hml, hown, hts, hlocks, hK, hA⟩ := C0q
  intro z x1 hf H locs ls hP hD hS hl
  unfold f_X7_isNow_0 at hf
  refine lv_aload_n hx hb dX7_isNow_0 rfl (lv_at hl 0 rfl) ?_
  obtain ⟨u1, hu1, hf⟩ := ql_bd hf
  refine ql_callRVi (As := []) (rest := []) C0 (c_X7_token l dC dI h ad hp pad cI N z u1 hu1) (cwV 0 hts gX7_isNow_X7_token rfl rfl rfl qv_X7_token ⟨Nat.le_of_ble_eq_true rfl, Nat.le_of_ble_eq_true rfl⟩) (va_recv hK.1 hP (ci := 7) (q0 := 0) rfl rfl) hK hP hS hl.1 rfl rfl (Nat.le_of_ble_eq_true rfl) dX7_isNow_1 (fun H1 locs hk hS => ?_)
  have hP := ql_keep hP hk
  refine lv_iload_n hx hb dX7_isNow_4 rfl (lv_at hl 1 rfl) ?_
  refine lv_icmp_eq (tgt := 15) hx hb dX7_isNow_5 (by decide) (fun c2 => ?_) (fun c2 => ?_)
  · have hf := (if_pos c2).symm.trans hf
    exact w_X7_isNow_15 C0 N _ hf _ _ _ hP hD hS (lv_sub hl [0] rfl)
  · have hf := (if_neg c2).symm.trans hf
    refine lv_aload_n hx hb dX7_isNow_8 rfl (lv_at hl 0 rfl) ?_
    obtain ⟨u3, hu3, hf⟩ := ql_bd hf
    refine ql_callVi (As := []) (rest := []) C0 (c_X7_refuse l dC dI h ad hp pad cI N z u3 hu3) (cwV 0 hts gX7_isNow_X7_refuse rfl rfl rfl qv_X7_refuse ⟨Nat.le_of_ble_eq_true rfl, Nat.le_of_ble_eq_true rfl⟩) (va_recv hK.1 hP (ci := 7) (q0 := 0) rfl rfl) hP hD hS hl.1 rfl rfl (Nat.le_of_ble_eq_true rfl) dX7_isNow_9 (fun H locs hP hD hS => ?_)
    refine lv_if_eq (tgt := 19) hx hb dX7_isNow_12 (by decide) (fun c4 => ?_) (fun c4 => ?_)
    · have hf := (if_pos c4).symm.trans hf
      refine lv_iconst (v := 0) hx hb dX7_isNow_19 (by decide) ?_
      exact ql_zret C0 (Or.inl rfl) hf hP hD hS dX7_isNow_20
    · have hf := (if_neg c4).symm.trans hf
      exact w_X7_isNow_15 C0 N _ hf _ _ _ hP hD hS (lv_sub hl [0] rfl)
set_option maxRecDepth 100000 in
theorem c_X7_isNow (l : Launch) (dC : Nat → ClassId) (dI : Nat → Nat → Nat) (h : Nat) (ad : Nat → Nat) (hp : Nat) (pad : Nat → Nat) (cI : ClassId) (N : Nat) (z : ql_Y) (x1 : Int32) (res : Int32 × ql_Y) (hf : f_X7_isNow N z x1 = some res) : ql_Mi l yX7_isNow wsX7_isNow rm_X7_isNow (dC, dI) [(cI, .int)] (ql_rw h ad hp pad cI) [.ref h, .int x1] z res :=
  ql_start_i (by decide) rfl (Nat.le_of_ble_eq_true rfl) (fun p e s m below meth c A ls C0 hl hP hD hS => w_X7_isNow_0 C0 N z x1 hf s.heap [] ls hP hD hS (lv_sub (show lv_has ls 2 [(0, .ref h), (1, .int x1)] from hl) [0, 1] rfl))
/-! ===== TestedLoops$Reader.take(I)Z ===== -/
abbrev rm_X7_take : Room := { frames := 1, cells := 0, slots := 0, locals := 20 }
theorem iw_X7_take_X7 : ∀ w ∈ wsX70, w ∈ wsX7_take := fun w h => List.mem_cons_of_mem _ (List.mem_append_right _ h)
theorem qv_X7_take : yX7_take.cls = RX7 ∧ yX7_take.cls ≠ "java/lang/invoke/MethodHandle" ∧ yX7_take.cls ≠ "java/lang/invoke/VarHandle" ∧ (parseMethodDescriptor yX7_take.desc).map (fun d => d.parameters.length) = some 1 := by decide +kernel
def f_X7_take_0 (N : Nat) (z : ql_Y) (x1 : Int32) : Option (Int32 × ql_Y) := (f_X7_token N z).bind fun u1 => if u1 = x1 then some (1, ((ql_up z.1 2 (fun _ => ((z.1 2 0) + 1))), z.2)) else (f_X7_refuse N z).bind fun u3 => if ql_bz u3.1 = true then some (u3.1, u3.2) else none
def f_X7_take (N : Nat) (z : ql_Y) (x1 : Int32) : Option (Int32 × ql_Y) := f_X7_take_0 N z x1
set_option maxHeartbeats 4000000 in
set_option maxRecDepth 100000 in
theorem w_X7_take_0 {p : Program} {l : Launch} {e : Env} {s : State} {m : MethodId} {args : Array Value} {below : List Frame} {meth : Method} {c : Code} {dC : Nat → ClassId} {dI : Nat → Nat → Nat} {A : Nat → Prop} {h : Nat} {ad : Nat → Nat} {hp : Nat} {pad : Nat → Nat} {cI : ClassId} {res : Int32 × ql_Y} (C0 : ql_C p s m args meth c cX7_take 2 (some .boolean) wsX7_take RX7 (dC, dI) [(cI, .int)] A) (N : Nat) : ∀ (z : ql_Y) (x1 : Int32), f_X7_take_0 N z x1 = some res → ∀ (H : Heap) (locs : List Loc) (ls : Array Slot), va_P (dC, dI) vwCl ((ql_rw h ad hp pad cI) z) H → va_D A ((ql_rw h ad hp pad cI) z) → va_S A s.heap H locs → lv_has ls 2 [(0, .ref h), (1, .int x1)] → W p l e rm_X7_take s m args below meth c H locs 0 0 (ql_Qi below (dC, dI) (ql_rw h ad hp pad cI) A args s res) (F0 m 0 ls []) := by
  have C0q := C0
  obtain ⟨hx, hb, hr, hml, hown, hts, hlocks, hK, hA⟩ := C0q
  have fl38 := hts (Cond.fieldLink RX7 38 "TestedLoops$Reader" "now" "I") (by decide +kernel)
  intro z x1 hf H locs ls hP hD hS hl
  unfold f_X7_take_0 at hf
  refine lv_aload_n hx hb dX7_take_0 rfl (lv_at hl 0 rfl) ?_
  obtain ⟨u1, hu1, hf⟩ := ql_bd hf
  refine ql_callRVi (As := []) (rest := []) C0 (c_X7_token l dC dI h ad hp pad cI N z u1 hu1) (cwV 0 hts gX7_take_X7_token rfl rfl rfl qv_X7_token ⟨Nat.le_of_ble_eq_true rfl, Nat.le_of_ble_eq_true rfl⟩) (va_recv hK.1 hP (ci := 7) (q0 := 0) rfl rfl) hK hP hS hl.1 rfl rfl (Nat.le_of_ble_eq_true rfl) dX7_take_1 (fun H1 locs hk hS => ?_)
  have hP := ql_keep hP hk
  refine lv_iload_n hx hb dX7_take_4 rfl (lv_at hl 1 rfl) ?_
  refine lv_icmp_eq (tgt := 13) hx hb dX7_take_5 (by decide) (fun c2 => ?_) (fun c2 => ?_)
  · have hf := (if_pos c2).symm.trans hf
    refine lv_aload_n hx hb dX7_take_13 rfl (lv_at hl 0 rfl) ?_
    refine lv_dup hx hb dX7_take_14 rfl ?_
    refine va_get (D := (dC, dI)) (ci := 7) (v := .int (z.1 2 0)) (C := RX7) (T := TX7) (N := 5) hx hb hts iw_X7_take_X7 hown hK.1 hP 0 rfl rfl 2 (by decide) fl38 (fun _ h9 => h9) rfl dX7_take_15 ?_
    refine lv_iconst (v := 1) hx hb dX7_take_18 (by decide) ?_
    refine lv_iadd hx hb dX7_take_19 ?_
    refine va_put (D := (dC, dI)) (ci := 7) (v := .int ((z.1 2 0) + 1)) (ty := .int) (C := RX7) (T := TX7) (N := 5) hx hb hts iw_X7_take_X7 tyX7 tyX7_ok nmX7 hown hK.1 hP hD hS 0 rfl rfl 2 (by decide) fl38 (fun _ h9 => h9) rfl (by decide +kernel) rfl rfl (Nat.le_of_ble_eq_true rfl) dX7_take_20 (fun H locs hP hD hS => ?_)
    refine lv_iconst (v := 1) hx hb dX7_take_23 (by decide) ?_
    exact ql_zret C0 (Or.inr rfl) hf hP hD hS dX7_take_24
  · have hf := (if_neg c2).symm.trans hf
    refine lv_aload_n hx hb dX7_take_8 rfl (lv_at hl 0 rfl) ?_
    obtain ⟨u3, hu3, hf⟩ := ql_bd hf
    refine ql_callVi (As := []) (rest := []) C0 (c_X7_refuse l dC dI h ad hp pad cI N z u3 hu3) (cwV 0 hts gX7_take_X7_refuse rfl rfl rfl qv_X7_refuse ⟨Nat.le_of_ble_eq_true rfl, Nat.le_of_ble_eq_true rfl⟩) (va_recv hK.1 hP (ci := 7) (q0 := 0) rfl rfl) hP hD hS hl.1 rfl rfl (Nat.le_of_ble_eq_true rfl) dX7_take_9 (fun H locs hP hD hS => ?_)
    exact ql_zret C0 (ql_bzo (ql_gt hf)) (ql_gx hf) hP hD hS dX7_take_12
set_option maxRecDepth 100000 in
theorem c_X7_take (l : Launch) (dC : Nat → ClassId) (dI : Nat → Nat → Nat) (h : Nat) (ad : Nat → Nat) (hp : Nat) (pad : Nat → Nat) (cI : ClassId) (N : Nat) (z : ql_Y) (x1 : Int32) (res : Int32 × ql_Y) (hf : f_X7_take N z x1 = some res) : ql_Mi l yX7_take wsX7_take rm_X7_take (dC, dI) [(cI, .int)] (ql_rw h ad hp pad cI) [.ref h, .int x1] z res :=
  ql_start_i (by decide) rfl (Nat.le_of_ble_eq_true rfl) (fun p e s m below meth c A ls C0 hl hP hD hS => w_X7_take_0 C0 N z x1 hf s.heap [] ls hP hD hS (lv_sub (show lv_has ls 2 [(0, .ref h), (1, .int x1)] from hl) [0, 1] rfl))
/-! ===== TestedLoops$Reader.refuseTest()I ===== -/
abbrev rm_X7_refuseTest : Room := { frames := 1, cells := 0, slots := 0, locals := 20 }
theorem iw_X7_refuseTest_X7 : ∀ w ∈ wsX70, w ∈ wsX7_refuseTest := fun w h => List.mem_cons_of_mem _ (List.mem_append_right _ h)
theorem qv_X7_refuseTest : yX7_refuseTest.cls = RX7 ∧ yX7_refuseTest.cls ≠ "java/lang/invoke/MethodHandle" ∧ yX7_refuseTest.cls ≠ "java/lang/invoke/VarHandle" ∧ (parseMethodDescriptor yX7_refuseTest.desc).map (fun d => d.parameters.length) = some 0 := by decide +kernel
def f_X7_refuseTest_0 (N : Nat) (z : ql_Y) : Option (Int32 × ql_Y) := (f_X7_refuse N z).bind fun u1 => some ((-1), u1.2)
def f_X7_refuseTest (N : Nat) (z : ql_Y) : Option (Int32 × ql_Y) := f_X7_refuseTest_0 N z
set_option maxHeartbeats 4000000 in
set_option maxRecDepth 100000 in
theorem w_X7_refuseTest_0 {p : Program} {l : Launch} {e : Env} {s : State} {m : MethodId} {args : Array Value} {below : List Frame} {meth : Method} {c : Code} {dC : Nat → ClassId} {dI : Nat → Nat → Nat} {A : Nat → Prop} {h : Nat} {ad : Nat → Nat} {hp : Nat} {pad : Nat → Nat} {cI : ClassId} {res : Int32 × ql_Y} (C0 : ql_C p s m args meth c cX7_refuseTest 1 (some .int) wsX7_refuseTest RX7 (dC, dI) [(cI, .int)] A) (N : Nat) : ∀ (z : ql_Y), f_X7_refuseTest_0 N z = some res → ∀ (H : Heap) (locs : List Loc) (ls : Array Slot), va_P (dC, dI) vwCl ((ql_rw h ad hp pad cI) z) H → va_D A ((ql_rw h ad hp pad cI) z) → va_S A s.heap H locs → lv_has ls 1 [(0, .ref h)] → W p l e rm_X7_refuseTest s m args below meth c H locs 0 0 (ql_Qi below (dC, dI) (ql_rw h ad hp pad cI) A args s res) (F0 m 0 ls []) := by
  have C0q := C0
  obtain ⟨hx, hb, hr, hml, hown, hts, hlocks, hK, hA⟩ := C0q
  intro z hf H locs ls hP hD hS hl
  unfold f_X7_refuseTest_0 at hf
  refine lv_aload_n hx hb dX7_refuseTest_0 rfl (lv_at hl 0 rfl) ?_
  obtain ⟨u1, hu1, hf⟩ := ql_bd hf
  refine ql_callVi (As := []) (rest := []) C0 (c_X7_refuse l dC dI h ad hp pad cI N z u1 hu1) (cwV 0 hts gX7_refuseTest_X7_refuse rfl rfl rfl qv_X7_refuse ⟨Nat.le_of_ble_eq_true rfl, Nat.le_of_ble_eq_true rfl⟩) (va_recv hK.1 hP (ci := 7) (q0 := 0) rfl rfl) hP hD hS hl.1 rfl rfl (Nat.le_of_ble_eq_true rfl) dX7_refuseTest_1 (fun H locs hP hD hS => ?_)
  refine lv_pop hx hb dX7_refuseTest_4 rfl ?_
  refine lv_iconst (v := (-1)) hx hb dX7_refuseTest_5 (by decide) ?_
  exact ql_iret C0 hf hP hD hS dX7_refuseTest_6
set_option maxRecDepth 100000 in
theorem c_X7_refuseTest (l : Launch) (dC : Nat → ClassId) (dI : Nat → Nat → Nat) (h : Nat) (ad : Nat → Nat) (hp : Nat) (pad : Nat → Nat) (cI : ClassId) (N : Nat) (z : ql_Y) (res : Int32 × ql_Y) (hf : f_X7_refuseTest N z = some res) : ql_Mi l yX7_refuseTest wsX7_refuseTest rm_X7_refuseTest (dC, dI) [(cI, .int)] (ql_rw h ad hp pad cI) [.ref h] z res :=
  ql_start_i (by decide) rfl (Nat.le_of_ble_eq_true rfl) (fun p e s m below meth c A ls C0 hl hP hD hS => w_X7_refuseTest_0 C0 N z hf s.heap [] ls hP hD hS (lv_sub (show lv_has ls 1 [(0, .ref h)] from hl) [0] rfl))
theorem qv_X7_readOne : yX7_readOne.cls = RX7 ∧ yX7_readOne.cls ≠ "java/lang/invoke/MethodHandle" ∧ yX7_readOne.cls ≠ "java/lang/invoke/VarHandle" ∧ (parseMethodDescriptor yX7_readOne.desc).map (fun d => d.parameters.length) = some 1 := by decide +kernel
/-! ===== TestedLoops$Reader.readTest(I)I ===== -/
abbrev rm_X7_readTest (fr lo : Nat) : Room := { frames := fr + 1, cells := 0, slots := 0, locals := lo + 21 }
theorem iw_X7_readTest_X7 : ∀ w ∈ wsX70, w ∈ wsX7_readTest := fun w h => List.mem_cons_of_mem _ (List.mem_append_right _ h)
theorem qv_X7_readTest : yX7_readTest.cls = RX7 ∧ yX7_readTest.cls ≠ "java/lang/invoke/MethodHandle" ∧ yX7_readTest.cls ≠ "java/lang/invoke/VarHandle" ∧ (parseMethodDescriptor yX7_readTest.desc).map (fun d => d.parameters.length) = some 1 := by decide +kernel
def f_X7_readTest_63 (N : Nat) (r1 : ql_Y → Int32 → Option (Int32 × ql_Y)) (k8 : ql_Y → Int32 → Int32 → Int32 → Int32 → Option (Int32 × ql_Y)) (z : ql_Y) (x1 : Int32) (x2 : Int32) (x3 : Int32) (x4 : Int32) : Option (Int32 × ql_Y) := k8 ((ql_up z.1 2 (fun _ => ((z.1 2 0) + 1))), z.2) x1 x2 x3 (x4 + 1)
def f_X7_readTest_8 (N : Nat) (r1 : ql_Y → Int32 → Option (Int32 × ql_Y)) : Nat → ql_Y → Int32 → Int32 → Int32 → Int32 → Option (Int32 × ql_Y)
  | 0, _, _, _, _, _ => none
  | n + 1, z, x1, x2, x3, x4 => if 300 ≤ x4 then some (x2, z) else (r1 z x1).bind fun u2 => if u2.1 = (-1) then some ((-1), u2.2) else (f_X7_token N u2.2).bind fun u4 => if u4 = 19 then f_X7_readTest_63 N r1 (f_X7_readTest_8 N r1 n) u2.2 x1 x2 (x3 &&& u2.1) x4 else (f_X7_token N u2.2).bind fun u6 => if u6 = 18 then f_X7_readTest_63 N r1 (f_X7_readTest_8 N r1 n) u2.2 x1 (x2 ||| (x3 &&& u2.1)) 15 x4 else some ((x2 ||| (x3 &&& u2.1)), u2.2)
def f_X7_readTest_0 (N : Nat) (r1 : ql_Y → Int32 → Option (Int32 × ql_Y)) (z : ql_Y) (x1 : Int32) : Option (Int32 × ql_Y) := f_X7_readTest_8 N r1 N z x1 0 15 0
def f_X7_readTest (N : Nat) (r1 : ql_Y → Int32 → Option (Int32 × ql_Y)) (z : ql_Y) (x1 : Int32) : Option (Int32 × ql_Y) := f_X7_readTest_0 N r1 z x1
set_option maxHeartbeats 4000000 in
set_option maxRecDepth 100000 in
theorem w_X7_readTest_63 {p : Program} {l : Launch} {e : Env} {s : State} {m : MethodId} {args : Array Value} {below : List Frame} {meth : Method} {c : Code} {dC : Nat → ClassId} {dI : Nat → Nat → Nat} {A : Nat → Prop} {h : Nat} {ad : Nat → Nat} {hp : Nat} {pad : Nat → Nat} {cI : ClassId} {res : Int32 × ql_Y} (C0 : ql_C p s m args meth c cX7_readTest 6 (some .int) wsX7_readTest RX7 (dC, dI) [(cI, .int)] A) (N : Nat) (r1 : ql_Y → Int32 → Option (Int32 × ql_Y)) (fr lo : Nat) (h1 : ∀ (z : ql_Y) (x0 : Int32) (res : Int32 × ql_Y), r1 z x0 = some res → ql_Mi l yX7_readOne wsX7_readOne { frames := fr, cells := 0, slots := 0, locals := lo } (dC, dI) [(cI, .int)] (ql_rw h ad hp pad cI) [.ref h, .int x0] z res) (k8 : ql_Y → Int32 → Int32 → Int32 → Int32 → Option (Int32 × ql_Y)) (hk8 : ∀ (z : ql_Y) (x1 : Int32) (x2 : Int32) (x3 : Int32) (x4 : Int32), k8 z x1 x2 x3 x4 = some res → ∀ (H : Heap) (locs : List Loc) (ls : Array Slot), va_P (dC, dI) vwCl ((ql_rw h ad hp pad cI) z) H → va_D A ((ql_rw h ad hp pad cI) z) → va_S A s.heap H locs → lv_has ls 6 [(0, .ref h), (1, .int x1), (2, .int x2), (3, .int x3), (4, .int x4)] → W p l e (rm_X7_readTest fr lo) s m args below meth c H locs 0 0 (ql_Qi below (dC, dI) (ql_rw h ad hp pad cI) A args s res) (F0 m 8 ls [])) : ∀ (z : ql_Y) (x1 : Int32) (x2 : Int32) (x3 : Int32) (x4 : Int32), f_X7_readTest_63 N r1 k8 z x1 x2 x3 x4 = some res → ∀ (H : Heap) (locs : List Loc) (ls : Array Slot), va_P (dC, dI) vwCl ((ql_rw h ad hp pad cI) z) H → va_D A ((ql_rw h ad hp pad cI) z) → va_S A s.heap H locs → lv_has ls 6 [(0, .ref h), (1, .int x1), (2, .int x2), (3, .int x3), (4, .int x4)] → W p l e (rm_X7_readTest fr lo) s m args below meth c H locs 0 0 (ql_Qi below (dC, dI) (ql_rw h ad hp pad cI) A args s res) (F0 m 63 ls []) := by
  have C0q := C0
  obtain ⟨hx, hb, hr, hml, hown, hts, hlocks, hK, hA⟩ := C0q
  have fl38 := hts (Cond.fieldLink RX7 38 "TestedLoops$Reader" "now" "I") (by decide +kernel)
  intro z x1 x2 x3 x4 hf H locs ls hP hD hS hl
  unfold f_X7_readTest_63 at hf
  refine lv_aload_n hx hb dX7_readTest_63 rfl (lv_at hl 0 rfl) ?_
  refine lv_dup hx hb dX7_readTest_64 rfl ?_
  refine va_get (D := (dC, dI)) (ci := 7) (v := .int (z.1 2 0)) (C := RX7) (T := TX7) (N := 5) hx hb hts iw_X7_readTest_X7 hown hK.1 hP 0 rfl rfl 2 (by decide) fl38 (fun _ h9 => h9) rfl dX7_readTest_65 ?_
  refine lv_iconst (v := 1) hx hb dX7_readTest_68 (by decide) ?_
  refine lv_iadd hx hb dX7_readTest_69 ?_
  refine va_put (D := (dC, dI)) (ci := 7) (v := .int ((z.1 2 0) + 1)) (ty := .int) (C := RX7) (T := TX7) (N := 5) hx hb hts iw_X7_readTest_X7 tyX7 tyX7_ok nmX7 hown hK.1 hP hD hS 0 rfl rfl 2 (by decide) fl38 (fun _ h9 => h9) rfl (by decide +kernel) rfl rfl (Nat.le_of_ble_eq_true rfl) dX7_readTest_70 (fun H locs hP hD hS => ?_)
  refine lv_iinc (v := (x4 + 1)) (lv' := [(4, .int (x4 + 1)), (0, .ref h), (1, .int x1), (2, .int x2), (3, .int x3)]) hx hb dX7_readTest_73 hl (k := 4) rfl rfl (by decide) rfl (fun ls hl => ?_)
  refine lv_goto (tgt := 8) hx hb dX7_readTest_76 (by decide) ?_
  exact hk8 _ _ _ _ _ hf _ _ _ hP hD hS (lv_sub hl [1, 2, 3, 4, 0] rfl)
set_option maxHeartbeats 4000000 in
set_option maxRecDepth 100000 in
theorem w_X7_readTest_8 {p : Program} {l : Launch} {e : Env} {s : State} {m : MethodId} {args : Array Value} {below : List Frame} {meth : Method} {c : Code} {dC : Nat → ClassId} {dI : Nat → Nat → Nat} {A : Nat → Prop} {h : Nat} {ad : Nat → Nat} {hp : Nat} {pad : Nat → Nat} {cI : ClassId} {res : Int32 × ql_Y} (C0 : ql_C p s m args meth c cX7_readTest 6 (some .int) wsX7_readTest RX7 (dC, dI) [(cI, .int)] A) (N : Nat) (r1 : ql_Y → Int32 → Option (Int32 × ql_Y)) (fr lo : Nat) (h1 : ∀ (z : ql_Y) (x0 : Int32) (res : Int32 × ql_Y), r1 z x0 = some res → ql_Mi l yX7_readOne wsX7_readOne { frames := fr, cells := 0, slots := 0, locals := lo } (dC, dI) [(cI, .int)] (ql_rw h ad hp pad cI) [.ref h, .int x0] z res) : ∀ (n : Nat), ∀ (z : ql_Y) (x1 : Int32) (x2 : Int32) (x3 : Int32) (x4 : Int32), f_X7_readTest_8 N r1 n z x1 x2 x3 x4 = some res → ∀ (H : Heap) (locs : List Loc) (ls : Array Slot), va_P (dC, dI) vwCl ((ql_rw h ad hp pad cI) z) H → va_D A ((ql_rw h ad hp pad cI) z) → va_S A s.heap H locs → lv_has ls 6 [(0, .ref h), (1, .int x1), (2, .int x2), (3, .int x3), (4, .int x4)] → W p l e (rm_X7_readTest fr lo) s m args below meth c H locs 0 0 (ql_Qi below (dC, dI) (ql_rw h ad hp pad cI) A args s res) (F0 m 8 ls []) := by
  have C0q := C0
  obtain ⟨hx, hb, hr, hml, hown, hts, hlocks, hK, hA⟩ := C0q
  intro n
  induction n with
  | zero =>
    intro z x1 x2 x3 x4 hf
    rw [f_X7_readTest_8] at hf
    cases hf
  | succ n ih =>
    intro z x1 x2 x3 x4 hf H locs ls hP hD hS hl
    rw [f_X7_readTest_8] at hf
    refine lv_iload hx hb dX7_readTest_8 (lv_at hl 4 rfl) ?_
    refine lv_sipush (v := 300) hx hb dX7_readTest_10 (by decide) ?_
    refine lv_icmp_ge (tgt := 79) hx hb dX7_readTest_13 (by decide) (fun c1 => ?_) (fun c1 => ?_)
    · have hf := (if_pos c1).symm.trans hf
      refine lv_iload_n hx hb dX7_readTest_79 rfl (lv_at hl 2 rfl) ?_
      exact ql_iret C0 hf hP hD hS dX7_readTest_80
    · have hf := (if_neg c1).symm.trans hf
      refine lv_aload_n hx hb dX7_readTest_16 rfl (lv_at hl 0 rfl) ?_
      refine lv_iload_n hx hb dX7_readTest_17 rfl (lv_at hl 1 rfl) ?_
      obtain ⟨u2, hu2, hf⟩ := ql_bd hf
      refine ql_callVi (As := [.int x1]) (rest := []) C0 (h1 z x1 u2 hu2) (cwV 1 hts gX7_readTest_X7_readOne rfl rfl rfl qv_X7_readOne ⟨by show fr + 1 ≤ fr + 1; omega, by show 8 + (2 + 11) + (lo) ≤ lo + 21; omega⟩) (va_recv hK.1 hP (ci := 7) (q0 := 0) rfl rfl) hP hD hS hl.1 rfl rfl (Nat.le_of_ble_eq_true rfl) dX7_readTest_18 (fun H locs hP hD hS => ?_)
      refine lv_istore (lv' := [(5, .int u2.1), (0, .ref h), (1, .int x1), (2, .int x2), (3, .int x3), (4, .int x4)]) hx hb dX7_readTest_21 hl (by decide) rfl (fun ls hl => ?_)
      refine lv_iload hx hb dX7_readTest_23 (lv_at hl 0 rfl) ?_
      refine lv_iconst (v := (-1)) hx hb dX7_readTest_25 (by decide) ?_
      refine lv_icmp_ne (tgt := 31) hx hb dX7_readTest_26 (by decide) (fun c3 => ?_) (fun c3 => ?_)
      · have hf := (if_neg c3).symm.trans hf
        refine lv_iload_n hx hb dX7_readTest_31 rfl (lv_at hl 4 rfl) ?_
        refine lv_iload hx hb dX7_readTest_32 (lv_at hl 0 rfl) ?_
        refine lv_iand hx hb dX7_readTest_34 ?_
        refine lv_istore_n (lv' := [(3, .int (x3 &&& u2.1)), (5, .int u2.1), (0, .ref h), (1, .int x1), (2, .int x2), (4, .int x4)]) hx hb dX7_readTest_35 rfl hl (by decide) rfl (fun ls hl => ?_)
        refine lv_aload_n hx hb dX7_readTest_36 rfl (lv_at hl 2 rfl) ?_
        obtain ⟨u4, hu4, hf⟩ := ql_bd hf
        refine ql_callRVi (As := []) (rest := []) C0 (c_X7_token l dC dI h ad hp pad cI N u2.2 u4 hu4) (cwV 0 hts gX7_readTest_X7_token rfl rfl rfl qv_X7_token ⟨by show 0 + 1 ≤ fr + 1; omega, by show 8 + (1 + 11) + (0) ≤ lo + 21; omega⟩) (va_recv hK.1 hP (ci := 7) (q0 := 0) rfl rfl) hK hP hS hl.1 rfl rfl (Nat.le_of_ble_eq_true rfl) dX7_readTest_37 (fun H1 locs hk hS => ?_)
        have hP := ql_keep hP hk
        refine lv_bipush (v := 19) hx hb dX7_readTest_40 (by decide) ?_
        refine lv_icmp_eq (tgt := 63) hx hb dX7_readTest_42 (by decide) (fun c5 => ?_) (fun c5 => ?_)
        · have hf := (if_pos c5).symm.trans hf
          exact w_X7_readTest_63 C0 N r1 fr lo h1 (f_X7_readTest_8 N r1 n) ih _ _ _ _ _ hf _ _ _ hP hD hS (lv_sub hl [2, 3, 4, 0, 5] rfl)
        · have hf := (if_neg c5).symm.trans hf
          refine lv_iload_n hx hb dX7_readTest_45 rfl (lv_at hl 4 rfl) ?_
          refine lv_iload_n hx hb dX7_readTest_46 rfl (lv_at hl 0 rfl) ?_
          refine lv_ior hx hb dX7_readTest_47 ?_
          refine lv_istore_n (lv' := [(2, .int (x2 ||| (x3 &&& u2.1))), (3, .int (x3 &&& u2.1)), (5, .int u2.1), (0, .ref h), (1, .int x1), (4, .int x4)]) hx hb dX7_readTest_48 rfl hl (by decide) rfl (fun ls hl => ?_)
          refine lv_bipush (v := 15) hx hb dX7_readTest_49 (by decide) ?_
          refine lv_istore_n (lv' := [(3, .int 15), (2, .int (x2 ||| (x3 &&& u2.1))), (5, .int u2.1), (0, .ref h), (1, .int x1), (4, .int x4)]) hx hb dX7_readTest_51 rfl hl (by decide) rfl (fun ls hl => ?_)
          refine lv_aload_n hx hb dX7_readTest_52 rfl (lv_at hl 3 rfl) ?_
          obtain ⟨u6, hu6, hf⟩ := ql_bd hf
          refine ql_callRVi (As := []) (rest := []) C0 (c_X7_token l dC dI h ad hp pad cI N u2.2 u6 hu6) (cwV 0 hts gX7_readTest_X7_token rfl rfl rfl qv_X7_token ⟨by show 0 + 1 ≤ fr + 1; omega, by show 8 + (1 + 11) + (0) ≤ lo + 21; omega⟩) (va_recv hK.1 hP (ci := 7) (q0 := 0) rfl rfl) hK hP hS hl.1 rfl rfl (Nat.le_of_ble_eq_true rfl) dX7_readTest_53 (fun H1 locs hk hS => ?_)
          have hP := ql_keep hP hk
          refine lv_bipush (v := 18) hx hb dX7_readTest_56 (by decide) ?_
          refine lv_icmp_eq (tgt := 63) hx hb dX7_readTest_58 (by decide) (fun c7 => ?_) (fun c7 => ?_)
          · have hf := (if_pos c7).symm.trans hf
            exact w_X7_readTest_63 C0 N r1 fr lo h1 (f_X7_readTest_8 N r1 n) ih _ _ _ _ _ hf _ _ _ hP hD hS (lv_sub hl [3, 4, 1, 0, 5] rfl)
          · have hf := (if_neg c7).symm.trans hf
            refine lv_iload_n hx hb dX7_readTest_61 rfl (lv_at hl 1 rfl) ?_
            exact ql_iret C0 hf hP hD hS dX7_readTest_62
      · have hf := (if_pos c3).symm.trans hf
        refine lv_iconst (v := (-1)) hx hb dX7_readTest_29 (by decide) ?_
        exact ql_iret C0 hf hP hD hS dX7_readTest_30
set_option maxHeartbeats 4000000 in
set_option maxRecDepth 100000 in
theorem w_X7_readTest_0 {p : Program} {l : Launch} {e : Env} {s : State} {m : MethodId} {args : Array Value} {below : List Frame} {meth : Method} {c : Code} {dC : Nat → ClassId} {dI : Nat → Nat → Nat} {A : Nat → Prop} {h : Nat} {ad : Nat → Nat} {hp : Nat} {pad : Nat → Nat} {cI : ClassId} {res : Int32 × ql_Y} (C0 : ql_C p s m args meth c cX7_readTest 6 (some .int) wsX7_readTest RX7 (dC, dI) [(cI, .int)] A) (N : Nat) (r1 : ql_Y → Int32 → Option (Int32 × ql_Y)) (fr lo : Nat) (h1 : ∀ (z : ql_Y) (x0 : Int32) (res : Int32 × ql_Y), r1 z x0 = some res → ql_Mi l yX7_readOne wsX7_readOne { frames := fr, cells := 0, slots := 0, locals := lo } (dC, dI) [(cI, .int)] (ql_rw h ad hp pad cI) [.ref h, .int x0] z res) : ∀ (z : ql_Y) (x1 : Int32), f_X7_readTest_0 N r1 z x1 = some res → ∀ (H : Heap) (locs : List Loc) (ls : Array Slot), va_P (dC, dI) vwCl ((ql_rw h ad hp pad cI) z) H → va_D A ((ql_rw h ad hp pad cI) z) → va_S A s.heap H locs → lv_has ls 6 [(0, .ref h), (1, .int x1)] → W p l e (rm_X7_readTest fr lo) s m args below meth c H locs 0 0 (ql_Qi below (dC, dI) (ql_rw h ad hp pad cI) A args s res) (F0 m 0 ls []) := by
  have C0q := C0
  obtain ⟨hx, hb, hr, hml, hown, hts, hlocks, hK, hA⟩ := C0q
  intro z x1 hf H locs ls hP hD hS hl
  unfold f_X7_readTest_0 at hf
  refine lv_iconst (v := 0) hx hb dX7_readTest_0 (by decide) ?_
  refine lv_istore_n (lv' := [(2, .int 0), (0, .ref h), (1, .int x1)]) hx hb dX7_readTest_1 rfl hl (by decide) rfl (fun ls hl => ?_)
  refine lv_bipush (v := 15) hx hb dX7_readTest_2 (by decide) ?_
  refine lv_istore_n (lv' := [(3, .int 15), (2, .int 0), (0, .ref h), (1, .int x1)]) hx hb dX7_readTest_4 rfl hl (by decide) rfl (fun ls hl => ?_)
  refine lv_iconst (v := 0) hx hb dX7_readTest_5 (by decide) ?_
  refine lv_istore (lv' := [(4, .int 0), (3, .int 15), (2, .int 0), (0, .ref h), (1, .int x1)]) hx hb dX7_readTest_6 hl (by decide) rfl (fun ls hl => ?_)
  exact w_X7_readTest_8 C0 N r1 fr lo h1 N _ _ _ _ _ hf _ _ _ hP hD hS (lv_sub hl [3, 4, 2, 1, 0] rfl)
set_option maxRecDepth 100000 in
theorem c_X7_readTest (l : Launch) (dC : Nat → ClassId) (dI : Nat → Nat → Nat) (h : Nat) (ad : Nat → Nat) (hp : Nat) (pad : Nat → Nat) (cI : ClassId) (N : Nat) (r1 : ql_Y → Int32 → Option (Int32 × ql_Y)) (fr lo : Nat) (h1 : ∀ (z : ql_Y) (x0 : Int32) (res : Int32 × ql_Y), r1 z x0 = some res → ql_Mi l yX7_readOne wsX7_readOne { frames := fr, cells := 0, slots := 0, locals := lo } (dC, dI) [(cI, .int)] (ql_rw h ad hp pad cI) [.ref h, .int x0] z res) (z : ql_Y) (x1 : Int32) (res : Int32 × ql_Y) (hf : f_X7_readTest N r1 z x1 = some res) : ql_Mi l yX7_readTest wsX7_readTest (rm_X7_readTest fr lo) (dC, dI) [(cI, .int)] (ql_rw h ad hp pad cI) [.ref h, .int x1] z res :=
  ql_start_i (by decide) rfl (Nat.le_of_ble_eq_true rfl) (fun p e s m below meth c A ls C0 hl hP hD hS => w_X7_readTest_0 C0 N r1 fr lo h1 z x1 hf s.heap [] ls hP hD hS (lv_sub (show lv_has ls 6 [(0, .ref h), (1, .int x1)] from hl) [0, 1] rfl))
/-! ===== TestedLoops$Reader.readBrackets(I)I ===== -/
abbrev rm_X7_readBrackets (fr lo : Nat) : Room := { frames := fr + 2, cells := 0, slots := 0, locals := lo + 46 }
theorem iw_X7_readBrackets_X7 : ∀ w ∈ wsX70, w ∈ wsX7_readBrackets := fun w h => List.mem_cons_of_mem _ (List.mem_append_right _ h)
theorem qv_X7_readBrackets : yX7_readBrackets.cls = RX7 ∧ yX7_readBrackets.cls ≠ "java/lang/invoke/MethodHandle" ∧ yX7_readBrackets.cls ≠ "java/lang/invoke/VarHandle" ∧ (parseMethodDescriptor yX7_readBrackets.desc).map (fun d => d.parameters.length) = some 1 := by decide +kernel
def f_X7_readBrackets_0 (N : Nat) (r1 : ql_Y → Int32 → Option (Int32 × ql_Y)) (z : ql_Y) (x1 : Int32) : Option (Int32 × ql_Y) := (f_X7_readTest N r1 ((ql_up z.1 2 (fun _ => ((z.1 2 0) + 1))), z.2) x1).bind fun u1 => if u1.1 = (-1) then some ((-1), u1.2) else (f_X7_take N u1.2 22).bind fun u3 => if u3.1 = 0 then some ((-1), u3.2) else some (u1.1, u3.2)
def f_X7_readBrackets (N : Nat) (r1 : ql_Y → Int32 → Option (Int32 × ql_Y)) (z : ql_Y) (x1 : Int32) : Option (Int32 × ql_Y) := f_X7_readBrackets_0 N r1 z x1
set_option maxHeartbeats 4000000 in
set_option maxRecDepth 100000 in
theorem w_X7_readBrackets_0 {p : Program} {l : Launch} {e : Env} {s : State} {m : MethodId} {args : Array Value} {below : List Frame} {meth : Method} {c : Code} {dC : Nat → ClassId} {dI : Nat → Nat → Nat} {A : Nat → Prop} {h : Nat} {ad : Nat → Nat} {hp : Nat} {pad : Nat → Nat} {cI : ClassId} {res : Int32 × ql_Y} (C0 : ql_C p s m args meth c cX7_readBrackets 3 (some .int) wsX7_readBrackets RX7 (dC, dI) [(cI, .int)] A) (N : Nat) (r1 : ql_Y → Int32 → Option (Int32 × ql_Y)) (fr lo : Nat) (h1 : ∀ (z : ql_Y) (x0 : Int32) (res : Int32 × ql_Y), r1 z x0 = some res → ql_Mi l yX7_readOne wsX7_readOne { frames := fr, cells := 0, slots := 0, locals := lo } (dC, dI) [(cI, .int)] (ql_rw h ad hp pad cI) [.ref h, .int x0] z res) : ∀ (z : ql_Y) (x1 : Int32), f_X7_readBrackets_0 N r1 z x1 = some res → ∀ (H : Heap) (locs : List Loc) (ls : Array Slot), va_P (dC, dI) vwCl ((ql_rw h ad hp pad cI) z) H → va_D A ((ql_rw h ad hp pad cI) z) → va_S A s.heap H locs → lv_has ls 3 [(0, .ref h), (1, .int x1)] → W p l e (rm_X7_readBrackets fr lo) s m args below meth c H locs 0 0 (ql_Qi below (dC, dI) (ql_rw h ad hp pad cI) A args s res) (F0 m 0 ls []) := by
  have C0q := C0
  obtain ⟨hx, hb, hr, hml, hown, hts, hlocks, hK, hA⟩ := C0q
  have fl38 := hts (Cond.fieldLink RX7 38 "TestedLoops$Reader" "now" "I") (by decide +kernel)
  intro z x1 hf H locs ls hP hD hS hl
  unfold f_X7_readBrackets_0 at hf
  refine lv_aload_n hx hb dX7_readBrackets_0 rfl (lv_at hl 0 rfl) ?_
  refine lv_dup hx hb dX7_readBrackets_1 rfl ?_
  refine va_get (D := (dC, dI)) (ci := 7) (v := .int (z.1 2 0)) (C := RX7) (T := TX7) (N := 5) hx hb hts iw_X7_readBrackets_X7 hown hK.1 hP 0 rfl rfl 2 (by decide) fl38 (fun _ h9 => h9) rfl dX7_readBrackets_2 ?_
  refine lv_iconst (v := 1) hx hb dX7_readBrackets_5 (by decide) ?_
  refine lv_iadd hx hb dX7_readBrackets_6 ?_
  refine va_put (D := (dC, dI)) (ci := 7) (v := .int ((z.1 2 0) + 1)) (ty := .int) (C := RX7) (T := TX7) (N := 5) hx hb hts iw_X7_readBrackets_X7 tyX7 tyX7_ok nmX7 hown hK.1 hP hD hS 0 rfl rfl 2 (by decide) fl38 (fun _ h9 => h9) rfl (by decide +kernel) rfl rfl (Nat.le_of_ble_eq_true rfl) dX7_readBrackets_7 (fun H locs hP hD hS => ?_)
  refine lv_aload_n hx hb dX7_readBrackets_10 rfl (lv_at hl 0 rfl) ?_
  refine lv_iload_n hx hb dX7_readBrackets_11 rfl (lv_at hl 1 rfl) ?_
  obtain ⟨u1, hu1, hf⟩ := ql_bd hf
  refine ql_callVi (As := [.int x1]) (rest := []) C0 (c_X7_readTest l dC dI h ad hp pad cI N r1 fr lo h1 ((ql_up z.1 2 (fun _ => ((z.1 2 0) + 1))), z.2) x1 u1 hu1) (cwV 1 hts gX7_readBrackets_X7_readTest rfl rfl rfl qv_X7_readTest ⟨by show fr + 1 + 1 ≤ fr + 2; omega, by show 8 + (6 + 11) + (lo + 21) ≤ lo + 46; omega⟩) (va_recv hK.1 hP (ci := 7) (q0 := 0) rfl rfl) hP hD hS hl.1 rfl rfl (Nat.le_of_ble_eq_true rfl) dX7_readBrackets_12 (fun H locs hP hD hS => ?_)
  refine lv_istore_n (lv' := [(2, .int u1.1), (0, .ref h), (1, .int x1)]) hx hb dX7_readBrackets_15 rfl hl (by decide) rfl (fun ls hl => ?_)
  refine lv_iload_n hx hb dX7_readBrackets_16 rfl (lv_at hl 0 rfl) ?_
  refine lv_iconst (v := (-1)) hx hb dX7_readBrackets_17 (by decide) ?_
  refine lv_icmp_eq (tgt := 34) hx hb dX7_readBrackets_18 (by decide) (fun c2 => ?_) (fun c2 => ?_)
  · have hf := (if_pos c2).symm.trans hf
    refine lv_iconst (v := (-1)) hx hb dX7_readBrackets_34 (by decide) ?_
    exact ql_iret C0 hf hP hD hS dX7_readBrackets_35
  · have hf := (if_neg c2).symm.trans hf
    refine lv_aload_n hx hb dX7_readBrackets_21 rfl (lv_at hl 1 rfl) ?_
    refine lv_bipush (v := 22) hx hb dX7_readBrackets_22 (by decide) ?_
    obtain ⟨u3, hu3, hf⟩ := ql_bd hf
    refine ql_callVi (As := [.int 22]) (rest := []) C0 (c_X7_take l dC dI h ad hp pad cI N u1.2 22 u3 hu3) (cwV 1 hts gX7_readBrackets_X7_take rfl rfl rfl qv_X7_take ⟨by show 1 + 1 ≤ fr + 2; omega, by show 8 + (2 + 11) + (20) ≤ lo + 46; omega⟩) (va_recv hK.1 hP (ci := 7) (q0 := 0) rfl rfl) hP hD hS hl.1 rfl rfl (Nat.le_of_ble_eq_true rfl) dX7_readBrackets_24 (fun H locs hP hD hS => ?_)
    refine lv_if_eq (tgt := 34) hx hb dX7_readBrackets_27 (by decide) (fun c4 => ?_) (fun c4 => ?_)
    · have hf := (if_pos c4).symm.trans hf
      refine lv_iconst (v := (-1)) hx hb dX7_readBrackets_34 (by decide) ?_
      exact ql_iret C0 hf hP hD hS dX7_readBrackets_35
    · have hf := (if_neg c4).symm.trans hf
      refine lv_iload_n hx hb dX7_readBrackets_30 rfl (lv_at hl 0 rfl) ?_
      refine lv_goto (tgt := 35) hx hb dX7_readBrackets_31 (by decide) ?_
      exact ql_iret C0 hf hP hD hS dX7_readBrackets_35
set_option maxRecDepth 100000 in
theorem c_X7_readBrackets (l : Launch) (dC : Nat → ClassId) (dI : Nat → Nat → Nat) (h : Nat) (ad : Nat → Nat) (hp : Nat) (pad : Nat → Nat) (cI : ClassId) (N : Nat) (r1 : ql_Y → Int32 → Option (Int32 × ql_Y)) (fr lo : Nat) (h1 : ∀ (z : ql_Y) (x0 : Int32) (res : Int32 × ql_Y), r1 z x0 = some res → ql_Mi l yX7_readOne wsX7_readOne { frames := fr, cells := 0, slots := 0, locals := lo } (dC, dI) [(cI, .int)] (ql_rw h ad hp pad cI) [.ref h, .int x0] z res) (z : ql_Y) (x1 : Int32) (res : Int32 × ql_Y) (hf : f_X7_readBrackets N r1 z x1 = some res) : ql_Mi l yX7_readBrackets wsX7_readBrackets (rm_X7_readBrackets fr lo) (dC, dI) [(cI, .int)] (ql_rw h ad hp pad cI) [.ref h, .int x1] z res :=
  ql_start_i (by decide) rfl (Nat.le_of_ble_eq_true rfl) (fun p e s m below meth c A ls C0 hl hP hD hS => w_X7_readBrackets_0 C0 N r1 fr lo h1 z x1 hf s.heap [] ls hP hD hS (lv_sub (show lv_has ls 3 [(0, .ref h), (1, .int x1)] from hl) [0, 1] rfl))
/-! ===== TestedLoops$Reader.readNot(I)I ===== -/
abbrev rm_X7_readNot (fr lo : Nat) : Room := { frames := fr + 1, cells := 0, slots := 0, locals := lo + 21 }
theorem iw_X7_readNot_X7 : ∀ w ∈ wsX70, w ∈ wsX7_readNot := fun w h => List.mem_cons_of_mem _ (List.mem_append_right _ h)
theorem qv_X7_readNot : yX7_readNot.cls = RX7 ∧ yX7_readNot.cls ≠ "java/lang/invoke/MethodHandle" ∧ yX7_readNot.cls ≠ "java/lang/invoke/VarHandle" ∧ (parseMethodDescriptor yX7_readNot.desc).map (fun d => d.parameters.length) = some 1 := by decide +kernel
def f_X7_readNot_0 (N : Nat) (r1 : ql_Y → Int32 → Option (Int32 × ql_Y)) (z : ql_Y) (x1 : Int32) : Option (Int32 × ql_Y) := (r1 ((ql_up z.1 2 (fun _ => ((z.1 2 0) + 1))), z.2) x1).bind fun u1 => if u1.1 = (-1) then some ((-1), u1.2) else some ((15 - u1.1), u1.2)
def f_X7_readNot (N : Nat) (r1 : ql_Y → Int32 → Option (Int32 × ql_Y)) (z : ql_Y) (x1 : Int32) : Option (Int32 × ql_Y) := f_X7_readNot_0 N r1 z x1
set_option maxHeartbeats 4000000 in
set_option maxRecDepth 100000 in
theorem w_X7_readNot_0 {p : Program} {l : Launch} {e : Env} {s : State} {m : MethodId} {args : Array Value} {below : List Frame} {meth : Method} {c : Code} {dC : Nat → ClassId} {dI : Nat → Nat → Nat} {A : Nat → Prop} {h : Nat} {ad : Nat → Nat} {hp : Nat} {pad : Nat → Nat} {cI : ClassId} {res : Int32 × ql_Y} (C0 : ql_C p s m args meth c cX7_readNot 3 (some .int) wsX7_readNot RX7 (dC, dI) [(cI, .int)] A) (N : Nat) (r1 : ql_Y → Int32 → Option (Int32 × ql_Y)) (fr lo : Nat) (h1 : ∀ (z : ql_Y) (x0 : Int32) (res : Int32 × ql_Y), r1 z x0 = some res → ql_Mi l yX7_readOne wsX7_readOne { frames := fr, cells := 0, slots := 0, locals := lo } (dC, dI) [(cI, .int)] (ql_rw h ad hp pad cI) [.ref h, .int x0] z res) : ∀ (z : ql_Y) (x1 : Int32), f_X7_readNot_0 N r1 z x1 = some res → ∀ (H : Heap) (locs : List Loc) (ls : Array Slot), va_P (dC, dI) vwCl ((ql_rw h ad hp pad cI) z) H → va_D A ((ql_rw h ad hp pad cI) z) → va_S A s.heap H locs → lv_has ls 3 [(0, .ref h), (1, .int x1)] → W p l e (rm_X7_readNot fr lo) s m args below meth c H locs 0 0 (ql_Qi below (dC, dI) (ql_rw h ad hp pad cI) A args s res) (F0 m 0 ls []) := by
  have C0q := C0
  obtain ⟨hx, hb, hr, hml, hown, hts, hlocks, hK, hA⟩ := C0q
  have fl38 := hts (Cond.fieldLink RX7 38 "TestedLoops$Reader" "now" "I") (by decide +kernel)
  intro z x1 hf H locs ls hP hD hS hl
  unfold f_X7_readNot_0 at hf
  refine lv_aload_n hx hb dX7_readNot_0 rfl (lv_at hl 0 rfl) ?_
  refine lv_dup hx hb dX7_readNot_1 rfl ?_
  refine va_get (D := (dC, dI)) (ci := 7) (v := .int (z.1 2 0)) (C := RX7) (T := TX7) (N := 5) hx hb hts iw_X7_readNot_X7 hown hK.1 hP 0 rfl rfl 2 (by decide) fl38 (fun _ h9 => h9) rfl dX7_readNot_2 ?_
  refine lv_iconst (v := 1) hx hb dX7_readNot_5 (by decide) ?_
  refine lv_iadd hx hb dX7_readNot_6 ?_
  refine va_put (D := (dC, dI)) (ci := 7) (v := .int ((z.1 2 0) + 1)) (ty := .int) (C := RX7) (T := TX7) (N := 5) hx hb hts iw_X7_readNot_X7 tyX7 tyX7_ok nmX7 hown hK.1 hP hD hS 0 rfl rfl 2 (by decide) fl38 (fun _ h9 => h9) rfl (by decide +kernel) rfl rfl (Nat.le_of_ble_eq_true rfl) dX7_readNot_7 (fun H locs hP hD hS => ?_)
  refine lv_aload_n hx hb dX7_readNot_10 rfl (lv_at hl 0 rfl) ?_
  refine lv_iload_n hx hb dX7_readNot_11 rfl (lv_at hl 1 rfl) ?_
  obtain ⟨u1, hu1, hf⟩ := ql_bd hf
  refine ql_callVi (As := [.int x1]) (rest := []) C0 (h1 ((ql_up z.1 2 (fun _ => ((z.1 2 0) + 1))), z.2) x1 u1 hu1) (cwV 1 hts gX7_readNot_X7_readOne rfl rfl rfl qv_X7_readOne ⟨by show fr + 1 ≤ fr + 1; omega, by show 8 + (2 + 11) + (lo) ≤ lo + 21; omega⟩) (va_recv hK.1 hP (ci := 7) (q0 := 0) rfl rfl) hP hD hS hl.1 rfl rfl (Nat.le_of_ble_eq_true rfl) dX7_readNot_12 (fun H locs hP hD hS => ?_)
  refine lv_istore_n (lv' := [(2, .int u1.1), (0, .ref h), (1, .int x1)]) hx hb dX7_readNot_15 rfl hl (by decide) rfl (fun ls hl => ?_)
  refine lv_iload_n hx hb dX7_readNot_16 rfl (lv_at hl 0 rfl) ?_
  refine lv_iconst (v := (-1)) hx hb dX7_readNot_17 (by decide) ?_
  refine lv_icmp_ne (tgt := 25) hx hb dX7_readNot_18 (by decide) (fun c2 => ?_) (fun c2 => ?_)
  · have hf := (if_neg c2).symm.trans hf
    refine lv_bipush (v := 15) hx hb dX7_readNot_25 (by decide) ?_
    refine lv_iload_n hx hb dX7_readNot_27 rfl (lv_at hl 0 rfl) ?_
    refine lv_isub hx hb dX7_readNot_28 ?_
    exact ql_iret C0 hf hP hD hS dX7_readNot_29
  · have hf := (if_pos c2).symm.trans hf
    refine lv_iconst (v := (-1)) hx hb dX7_readNot_21 (by decide) ?_
    refine lv_goto (tgt := 29) hx hb dX7_readNot_22 (by decide) ?_
    exact ql_iret C0 hf hP hD hS dX7_readNot_29
set_option maxRecDepth 100000 in
theorem c_X7_readNot (l : Launch) (dC : Nat → ClassId) (dI : Nat → Nat → Nat) (h : Nat) (ad : Nat → Nat) (hp : Nat) (pad : Nat → Nat) (cI : ClassId) (N : Nat) (r1 : ql_Y → Int32 → Option (Int32 × ql_Y)) (fr lo : Nat) (h1 : ∀ (z : ql_Y) (x0 : Int32) (res : Int32 × ql_Y), r1 z x0 = some res → ql_Mi l yX7_readOne wsX7_readOne { frames := fr, cells := 0, slots := 0, locals := lo } (dC, dI) [(cI, .int)] (ql_rw h ad hp pad cI) [.ref h, .int x0] z res) (z : ql_Y) (x1 : Int32) (res : Int32 × ql_Y) (hf : f_X7_readNot N r1 z x1 = some res) : ql_Mi l yX7_readNot wsX7_readNot (rm_X7_readNot fr lo) (dC, dI) [(cI, .int)] (ql_rw h ad hp pad cI) [.ref h, .int x1] z res :=
  ql_start_i (by decide) rfl (Nat.le_of_ble_eq_true rfl) (fun p e s m below meth c A ls C0 hl hP hD hS => w_X7_readNot_0 C0 N r1 fr lo h1 z x1 hf s.heap [] ls hP hD hS (lv_sub (show lv_has ls 3 [(0, .ref h), (1, .int x1)] from hl) [0, 1] rfl))
/-! ===== TestedLoops$Reader.readOne(I)I ===== -/
abbrev rm_X7_readOne (fr lo : Nat) : Room := { frames := fr + 3, cells := 0, slots := 0, locals := lo + 68 }
theorem iw_X7_readOne_X7 : ∀ w ∈ wsX70, w ∈ wsX7_readOne := fun w h => List.mem_cons_of_mem _ (List.mem_append_right _ h)
def f_X7_readOne_161 (N : Nat) (r1 : ql_Y → Int32 → Option (Int32 × ql_Y)) (z : ql_Y) : Option (Int32 × ql_Y) := (f_X7_refuseTest N z).bind fun u1 => some (u1.1, u1.2)
def f_X7_readOne_0 (N : Nat) (r1 : ql_Y → Int32 → Option (Int32 × ql_Y)) (z : ql_Y) (x1 : Int32) : Option (Int32 × ql_Y) := (f_X7_token N z).bind fun u2 => if u2 = 10 then some (10, ((ql_up z.1 2 (fun _ => ((z.1 2 0) + 1))), z.2)) else if u2 = 11 then some (12, ((ql_up z.1 2 (fun _ => ((z.1 2 0) + 1))), z.2)) else if u2 = 12 then f_X7_readOne_161 N r1 z else if u2 = 13 then f_X7_readOne_161 N r1 z else if u2 = 14 then f_X7_readOne_161 N r1 z else if u2 = 15 then some (0, ((ql_up z.1 2 (fun _ => ((z.1 2 0) + 1))), z.2)) else if u2 = 16 then some (15, ((ql_up z.1 2 (fun _ => ((z.1 2 0) + 1))), z.2)) else if u2 = 17 then f_X7_readOne_161 N r1 z else if u2 = 18 then f_X7_readOne_161 N r1 z else if u2 = 19 then f_X7_readOne_161 N r1 z else if u2 = 20 then if 8 ≤ x1 then (f_X7_refuseTest N z).bind fun u15 => some (u15.1, u15.2) else (f_X7_readNot N r1 z (x1 + 1)).bind fun u16 => some (u16.1, u16.2) else if u2 = 21 then if 8 ≤ x1 then (f_X7_refuseTest N z).bind fun u19 => some (u19.1, u19.2) else (f_X7_readBrackets N r1 z (x1 + 1)).bind fun u20 => some (u20.1, u20.2) else f_X7_readOne_161 N r1 z
def f_X7_readOneP (N : Nat) (r1 : ql_Y → Int32 → Option (Int32 × ql_Y)) (z : ql_Y) (x1 : Int32) : Option (Int32 × ql_Y) := f_X7_readOne_0 N r1 z x1
set_option maxHeartbeats 4000000 in
set_option maxRecDepth 100000 in
theorem w_X7_readOne_161 {p : Program} {l : Launch} {e : Env} {s : State} {m : MethodId} {args : Array Value} {below : List Frame} {meth : Method} {c : Code} {dC : Nat → ClassId} {dI : Nat → Nat → Nat} {A : Nat → Prop} {h : Nat} {ad : Nat → Nat} {hp : Nat} {pad : Nat → Nat} {cI : ClassId} {res : Int32 × ql_Y} (C0 : ql_C p s m args meth c cX7_readOne 2 (some .int) wsX7_readOne RX7 (dC, dI) [(cI, .int)] A) (N : Nat) (r1 : ql_Y → Int32 → Option (Int32 × ql_Y)) (fr lo : Nat) (h1 : ∀ (z : ql_Y) (x0 : Int32) (res : Int32 × ql_Y), r1 z x0 = some res → ql_Mi l yX7_readOne wsX7_readOne { frames := fr, cells := 0, slots := 0, locals := lo } (dC, dI) [(cI, .int)] (ql_rw h ad hp pad cI) [.ref h, .int x0] z res) : ∀ (z : ql_Y), f_X7_readOne_161 N r1 z = some res → ∀ (H : Heap) (locs : List Loc) (ls : Array Slot), va_P (dC, dI) vwCl ((ql_rw h ad hp pad cI) z) H → va_D A ((ql_rw h ad hp pad cI) z) → va_S A s.heap H locs → lv_has ls 2 [(0, .ref h)] → W p l e (rm_X7_readOne fr lo) s m args below meth c H locs 0 0 (ql_Qi below (dC, dI) (ql_rw h ad hp pad cI) A args s res) (F0 m 161 ls []) := by
  have C0q := C0
  obtain ⟨hx, hb, hr, hml, hown, hts, hlocks, hK, hA⟩ := C0q
  intro z hf H locs ls hP hD hS hl
  unfold f_X7_readOne_161 at hf
  refine lv_aload_n hx hb dX7_readOne_161 rfl (lv_at hl 0 rfl) ?_
  obtain ⟨u1, hu1, hf⟩ := ql_bd hf
  refine ql_callVi (As := []) (rest := []) C0 (c_X7_refuseTest l dC dI h ad hp pad cI N z u1 hu1) (cwV 0 hts gX7_readOne_X7_refuseTest rfl rfl rfl qv_X7_refuseTest ⟨by show 1 + 1 ≤ fr + 3; omega, by show 8 + (1 + 11) + (20) ≤ lo + 68; omega⟩) (va_recv hK.1 hP (ci := 7) (q0 := 0) rfl rfl) hP hD hS hl.1 rfl rfl (Nat.le_of_ble_eq_true rfl) dX7_readOne_162 (fun H locs hP hD hS => ?_)
  exact ql_iret C0 hf hP hD hS dX7_readOne_165
set_option maxHeartbeats 4000000 in
set_option maxRecDepth 100000 in
theorem w_X7_readOne_0 {p : Program} {l : Launch} {e : Env} {s : State} {m : MethodId} {args : Array Value} {below : List Frame} {meth : Method} {c : Code} {dC : Nat → ClassId} {dI : Nat → Nat → Nat} {A : Nat → Prop} {h : Nat} {ad : Nat → Nat} {hp : Nat} {pad : Nat → Nat} {cI : ClassId} {res : Int32 × ql_Y} (C0 : ql_C p s m args meth c cX7_readOne 2 (some .int) wsX7_readOne RX7 (dC, dI) [(cI, .int)] A) (N : Nat) (r1 : ql_Y → Int32 → Option (Int32 × ql_Y)) (fr lo : Nat) (h1 : ∀ (z : ql_Y) (x0 : Int32) (res : Int32 × ql_Y), r1 z x0 = some res → ql_Mi l yX7_readOne wsX7_readOne { frames := fr, cells := 0, slots := 0, locals := lo } (dC, dI) [(cI, .int)] (ql_rw h ad hp pad cI) [.ref h, .int x0] z res) : ∀ (z : ql_Y) (x1 : Int32), f_X7_readOne_0 N r1 z x1 = some res → ∀ (H : Heap) (locs : List Loc) (ls : Array Slot), va_P (dC, dI) vwCl ((ql_rw h ad hp pad cI) z) H → va_D A ((ql_rw h ad hp pad cI) z) → va_S A s.heap H locs → lv_has ls 2 [(0, .ref h), (1, .int x1)] → W p l e (rm_X7_readOne fr lo) s m args below meth c H locs 0 0 (ql_Qi below (dC, dI) (ql_rw h ad hp pad cI) A args s res) (F0 m 0 ls []) := by
  have C0q := C0
  obtain ⟨hx, hb, hr, hml, hown, hts, hlocks, hK, hA⟩ := C0q
  have fl38 := hts (Cond.fieldLink RX7 38 "TestedLoops$Reader" "now" "I") (by decide +kernel)
  intro z x1 hf H locs ls hP hD hS hl
  unfold f_X7_readOne_0 at hf
  refine lv_aload_n hx hb dX7_readOne_0 rfl (lv_at hl 0 rfl) ?_
  obtain ⟨u2, hu2, hf⟩ := ql_bd hf
  refine ql_callRVi (As := []) (rest := []) C0 (c_X7_token l dC dI h ad hp pad cI N z u2 hu2) (cwV 0 hts gX7_readOne_X7_token rfl rfl rfl qv_X7_token ⟨by show 0 + 1 ≤ fr + 3; omega, by show 8 + (1 + 11) + (0) ≤ lo + 68; omega⟩) (va_recv hK.1 hP (ci := 7) (q0 := 0) rfl rfl) hK hP hS hl.1 rfl rfl (Nat.le_of_ble_eq_true rfl) dX7_readOne_1 (fun H1 locs hk hS => ?_)
  have hP := ql_keep hP hk
  by_cases c3 : u2 = 10
  · have hf := (if_pos c3).symm.trans hf
    refine lv_tableIn (tgt := 68) (off := 64) hx hb dX7_readOne_4 (by rw [c3]; decide) (by rw [c3]; decide) (by rw [c3]; rfl) (by decide) ?_
    refine lv_aload_n hx hb dX7_readOne_68 rfl (lv_at hl 0 rfl) ?_
    refine lv_dup hx hb dX7_readOne_69 rfl ?_
    refine va_get (D := (dC, dI)) (ci := 7) (v := .int (z.1 2 0)) (C := RX7) (T := TX7) (N := 5) hx hb hts iw_X7_readOne_X7 hown hK.1 hP 0 rfl rfl 2 (by decide) fl38 (fun _ h9 => h9) rfl dX7_readOne_70 ?_
    refine lv_iconst (v := 1) hx hb dX7_readOne_73 (by decide) ?_
    refine lv_iadd hx hb dX7_readOne_74 ?_
    refine va_put (D := (dC, dI)) (ci := 7) (v := .int ((z.1 2 0) + 1)) (ty := .int) (C := RX7) (T := TX7) (N := 5) hx hb hts iw_X7_readOne_X7 tyX7 tyX7_ok nmX7 hown hK.1 hP hD hS 0 rfl rfl 2 (by decide) fl38 (fun _ h9 => h9) rfl (by decide +kernel) rfl rfl (Nat.le_of_ble_eq_true rfl) dX7_readOne_75 (fun H locs hP hD hS => ?_)
    refine lv_bipush (v := 10) hx hb dX7_readOne_78 (by decide) ?_
    exact ql_iret C0 hf hP hD hS dX7_readOne_80
  have hf := (if_neg c3).symm.trans hf
  by_cases c4 : u2 = 11
  · have hf := (if_pos c4).symm.trans hf
    refine lv_tableIn (tgt := 81) (off := 77) hx hb dX7_readOne_4 (by rw [c4]; decide) (by rw [c4]; decide) (by rw [c4]; rfl) (by decide) ?_
    refine lv_aload_n hx hb dX7_readOne_81 rfl (lv_at hl 0 rfl) ?_
    refine lv_dup hx hb dX7_readOne_82 rfl ?_
    refine va_get (D := (dC, dI)) (ci := 7) (v := .int (z.1 2 0)) (C := RX7) (T := TX7) (N := 5) hx hb hts iw_X7_readOne_X7 hown hK.1 hP 0 rfl rfl 2 (by decide) fl38 (fun _ h9 => h9) rfl dX7_readOne_83 ?_
    refine lv_iconst (v := 1) hx hb dX7_readOne_86 (by decide) ?_
    refine lv_iadd hx hb dX7_readOne_87 ?_
    refine va_put (D := (dC, dI)) (ci := 7) (v := .int ((z.1 2 0) + 1)) (ty := .int) (C := RX7) (T := TX7) (N := 5) hx hb hts iw_X7_readOne_X7 tyX7 tyX7_ok nmX7 hown hK.1 hP hD hS 0 rfl rfl 2 (by decide) fl38 (fun _ h9 => h9) rfl (by decide +kernel) rfl rfl (Nat.le_of_ble_eq_true rfl) dX7_readOne_88 (fun H locs hP hD hS => ?_)
    refine lv_bipush (v := 12) hx hb dX7_readOne_91 (by decide) ?_
    exact ql_iret C0 hf hP hD hS dX7_readOne_93
  have hf := (if_neg c4).symm.trans hf
  by_cases c5 : u2 = 12
  · have hf := (if_pos c5).symm.trans hf
    refine lv_tableIn (tgt := 161) (off := 157) hx hb dX7_readOne_4 (by rw [c5]; decide) (by rw [c5]; decide) (by rw [c5]; rfl) (by decide) ?_
    exact w_X7_readOne_161 C0 N r1 fr lo h1 _ hf _ _ _ hP hD hS (lv_sub hl [0] rfl)
  have hf := (if_neg c5).symm.trans hf
  by_cases c6 : u2 = 13
  · have hf := (if_pos c6).symm.trans hf
    refine lv_tableIn (tgt := 161) (off := 157) hx hb dX7_readOne_4 (by rw [c6]; decide) (by rw [c6]; decide) (by rw [c6]; rfl) (by decide) ?_
    exact w_X7_readOne_161 C0 N r1 fr lo h1 _ hf _ _ _ hP hD hS (lv_sub hl [0] rfl)
  have hf := (if_neg c6).symm.trans hf
  by_cases c7 : u2 = 14
  · have hf := (if_pos c7).symm.trans hf
    refine lv_tableIn (tgt := 161) (off := 157) hx hb dX7_readOne_4 (by rw [c7]; decide) (by rw [c7]; decide) (by rw [c7]; rfl) (by decide) ?_
    exact w_X7_readOne_161 C0 N r1 fr lo h1 _ hf _ _ _ hP hD hS (lv_sub hl [0] rfl)
  have hf := (if_neg c7).symm.trans hf
  by_cases c8 : u2 = 15
  · have hf := (if_pos c8).symm.trans hf
    refine lv_tableIn (tgt := 94) (off := 90) hx hb dX7_readOne_4 (by rw [c8]; decide) (by rw [c8]; decide) (by rw [c8]; rfl) (by decide) ?_
    refine lv_aload_n hx hb dX7_readOne_94 rfl (lv_at hl 0 rfl) ?_
    refine lv_dup hx hb dX7_readOne_95 rfl ?_
    refine va_get (D := (dC, dI)) (ci := 7) (v := .int (z.1 2 0)) (C := RX7) (T := TX7) (N := 5) hx hb hts iw_X7_readOne_X7 hown hK.1 hP 0 rfl rfl 2 (by decide) fl38 (fun _ h9 => h9) rfl dX7_readOne_96 ?_
    refine lv_iconst (v := 1) hx hb dX7_readOne_99 (by decide) ?_
    refine lv_iadd hx hb dX7_readOne_100 ?_
    refine va_put (D := (dC, dI)) (ci := 7) (v := .int ((z.1 2 0) + 1)) (ty := .int) (C := RX7) (T := TX7) (N := 5) hx hb hts iw_X7_readOne_X7 tyX7 tyX7_ok nmX7 hown hK.1 hP hD hS 0 rfl rfl 2 (by decide) fl38 (fun _ h9 => h9) rfl (by decide +kernel) rfl rfl (Nat.le_of_ble_eq_true rfl) dX7_readOne_101 (fun H locs hP hD hS => ?_)
    refine lv_iconst (v := 0) hx hb dX7_readOne_104 (by decide) ?_
    exact ql_iret C0 hf hP hD hS dX7_readOne_105
  have hf := (if_neg c8).symm.trans hf
  by_cases c9 : u2 = 16
  · have hf := (if_pos c9).symm.trans hf
    refine lv_tableIn (tgt := 106) (off := 102) hx hb dX7_readOne_4 (by rw [c9]; decide) (by rw [c9]; decide) (by rw [c9]; rfl) (by decide) ?_
    refine lv_aload_n hx hb dX7_readOne_106 rfl (lv_at hl 0 rfl) ?_
    refine lv_dup hx hb dX7_readOne_107 rfl ?_
    refine va_get (D := (dC, dI)) (ci := 7) (v := .int (z.1 2 0)) (C := RX7) (T := TX7) (N := 5) hx hb hts iw_X7_readOne_X7 hown hK.1 hP 0 rfl rfl 2 (by decide) fl38 (fun _ h9 => h9) rfl dX7_readOne_108 ?_
    refine lv_iconst (v := 1) hx hb dX7_readOne_111 (by decide) ?_
    refine lv_iadd hx hb dX7_readOne_112 ?_
    refine va_put (D := (dC, dI)) (ci := 7) (v := .int ((z.1 2 0) + 1)) (ty := .int) (C := RX7) (T := TX7) (N := 5) hx hb hts iw_X7_readOne_X7 tyX7 tyX7_ok nmX7 hown hK.1 hP hD hS 0 rfl rfl 2 (by decide) fl38 (fun _ h9 => h9) rfl (by decide +kernel) rfl rfl (Nat.le_of_ble_eq_true rfl) dX7_readOne_113 (fun H locs hP hD hS => ?_)
    refine lv_bipush (v := 15) hx hb dX7_readOne_116 (by decide) ?_
    exact ql_iret C0 hf hP hD hS dX7_readOne_118
  have hf := (if_neg c9).symm.trans hf
  by_cases c10 : u2 = 17
  · have hf := (if_pos c10).symm.trans hf
    refine lv_tableIn (tgt := 161) (off := 157) hx hb dX7_readOne_4 (by rw [c10]; decide) (by rw [c10]; decide) (by rw [c10]; rfl) (by decide) ?_
    exact w_X7_readOne_161 C0 N r1 fr lo h1 _ hf _ _ _ hP hD hS (lv_sub hl [0] rfl)
  have hf := (if_neg c10).symm.trans hf
  by_cases c11 : u2 = 18
  · have hf := (if_pos c11).symm.trans hf
    refine lv_tableIn (tgt := 161) (off := 157) hx hb dX7_readOne_4 (by rw [c11]; decide) (by rw [c11]; decide) (by rw [c11]; rfl) (by decide) ?_
    exact w_X7_readOne_161 C0 N r1 fr lo h1 _ hf _ _ _ hP hD hS (lv_sub hl [0] rfl)
  have hf := (if_neg c11).symm.trans hf
  by_cases c12 : u2 = 19
  · have hf := (if_pos c12).symm.trans hf
    refine lv_tableIn (tgt := 161) (off := 157) hx hb dX7_readOne_4 (by rw [c12]; decide) (by rw [c12]; decide) (by rw [c12]; rfl) (by decide) ?_
    exact w_X7_readOne_161 C0 N r1 fr lo h1 _ hf _ _ _ hP hD hS (lv_sub hl [0] rfl)
  have hf := (if_neg c12).symm.trans hf
  by_cases c13 : u2 = 20
  · have hf := (if_pos c13).symm.trans hf
    refine lv_tableIn (tgt := 119) (off := 115) hx hb dX7_readOne_4 (by rw [c13]; decide) (by rw [c13]; decide) (by rw [c13]; rfl) (by decide) ?_
    refine lv_iload_n hx hb dX7_readOne_119 rfl (lv_at hl 1 rfl) ?_
    refine lv_bipush (v := 8) hx hb dX7_readOne_120 (by decide) ?_
    refine lv_icmp_ge (tgt := 135) hx hb dX7_readOne_122 (by decide) (fun c14 => ?_) (fun c14 => ?_)
    · have hf := (if_pos c14).symm.trans hf
      refine lv_aload_n hx hb dX7_readOne_135 rfl (lv_at hl 0 rfl) ?_
      obtain ⟨u15, hu15, hf⟩ := ql_bd hf
      refine ql_callVi (As := []) (rest := []) C0 (c_X7_refuseTest l dC dI h ad hp pad cI N z u15 hu15) (cwV 0 hts gX7_readOne_X7_refuseTest rfl rfl rfl qv_X7_refuseTest ⟨by show 1 + 1 ≤ fr + 3; omega, by show 8 + (1 + 11) + (20) ≤ lo + 68; omega⟩) (va_recv hK.1 hP (ci := 7) (q0 := 0) rfl rfl) hP hD hS hl.1 rfl rfl (Nat.le_of_ble_eq_true rfl) dX7_readOne_136 (fun H locs hP hD hS => ?_)
      exact ql_iret C0 hf hP hD hS dX7_readOne_139
    · have hf := (if_neg c14).symm.trans hf
      refine lv_aload_n hx hb dX7_readOne_125 rfl (lv_at hl 0 rfl) ?_
      refine lv_iload_n hx hb dX7_readOne_126 rfl (lv_at hl 1 rfl) ?_
      refine lv_iconst (v := 1) hx hb dX7_readOne_127 (by decide) ?_
      refine lv_iadd hx hb dX7_readOne_128 ?_
      obtain ⟨u16, hu16, hf⟩ := ql_bd hf
      refine ql_callVi (As := [.int (x1 + 1)]) (rest := []) C0 (c_X7_readNot l dC dI h ad hp pad cI N r1 fr lo h1 z (x1 + 1) u16 hu16) (cwV 1 hts gX7_readOne_X7_readNot rfl rfl rfl qv_X7_readNot ⟨by show fr + 1 + 1 ≤ fr + 3; omega, by show 8 + (3 + 11) + (lo + 21) ≤ lo + 68; omega⟩) (va_recv hK.1 hP (ci := 7) (q0 := 0) rfl rfl) hP hD hS hl.1 rfl rfl (Nat.le_of_ble_eq_true rfl) dX7_readOne_129 (fun H locs hP hD hS => ?_)
      refine lv_goto (tgt := 139) hx hb dX7_readOne_132 (by decide) ?_
      exact ql_iret C0 hf hP hD hS dX7_readOne_139
  have hf := (if_neg c13).symm.trans hf
  by_cases c17 : u2 = 21
  · have hf := (if_pos c17).symm.trans hf
    refine lv_tableIn (tgt := 140) (off := 136) hx hb dX7_readOne_4 (by rw [c17]; decide) (by rw [c17]; decide) (by rw [c17]; rfl) (by decide) ?_
    refine lv_iload_n hx hb dX7_readOne_140 rfl (lv_at hl 1 rfl) ?_
    refine lv_bipush (v := 8) hx hb dX7_readOne_141 (by decide) ?_
    refine lv_icmp_ge (tgt := 156) hx hb dX7_readOne_143 (by decide) (fun c18 => ?_) (fun c18 => ?_)
    · have hf := (if_pos c18).symm.trans hf
      refine lv_aload_n hx hb dX7_readOne_156 rfl (lv_at hl 0 rfl) ?_
      obtain ⟨u19, hu19, hf⟩ := ql_bd hf
      refine ql_callVi (As := []) (rest := []) C0 (c_X7_refuseTest l dC dI h ad hp pad cI N z u19 hu19) (cwV 0 hts gX7_readOne_X7_refuseTest rfl rfl rfl qv_X7_refuseTest ⟨by show 1 + 1 ≤ fr + 3; omega, by show 8 + (1 + 11) + (20) ≤ lo + 68; omega⟩) (va_recv hK.1 hP (ci := 7) (q0 := 0) rfl rfl) hP hD hS hl.1 rfl rfl (Nat.le_of_ble_eq_true rfl) dX7_readOne_157 (fun H locs hP hD hS => ?_)
      exact ql_iret C0 hf hP hD hS dX7_readOne_160
    · have hf := (if_neg c18).symm.trans hf
      refine lv_aload_n hx hb dX7_readOne_146 rfl (lv_at hl 0 rfl) ?_
      refine lv_iload_n hx hb dX7_readOne_147 rfl (lv_at hl 1 rfl) ?_
      refine lv_iconst (v := 1) hx hb dX7_readOne_148 (by decide) ?_
      refine lv_iadd hx hb dX7_readOne_149 ?_
      obtain ⟨u20, hu20, hf⟩ := ql_bd hf
      refine ql_callVi (As := [.int (x1 + 1)]) (rest := []) C0 (c_X7_readBrackets l dC dI h ad hp pad cI N r1 fr lo h1 z (x1 + 1) u20 hu20) (cwV 1 hts gX7_readOne_X7_readBrackets rfl rfl rfl qv_X7_readBrackets ⟨by show fr + 2 + 1 ≤ fr + 3; omega, by show 8 + (3 + 11) + (lo + 46) ≤ lo + 68; omega⟩) (va_recv hK.1 hP (ci := 7) (q0 := 0) rfl rfl) hP hD hS hl.1 rfl rfl (Nat.le_of_ble_eq_true rfl) dX7_readOne_150 (fun H locs hP hD hS => ?_)
      refine lv_goto (tgt := 160) hx hb dX7_readOne_153 (by decide) ?_
      exact ql_iret C0 hf hP hD hS dX7_readOne_160
  have hf := (if_neg c17).symm.trans hf
  have ec3 : u2.toInt ≠ 10 := ql_ne (k := 10) c3
  have ec4 : u2.toInt ≠ 11 := ql_ne (k := 11) c4
  have ec5 : u2.toInt ≠ 12 := ql_ne (k := 12) c5
  have ec6 : u2.toInt ≠ 13 := ql_ne (k := 13) c6
  have ec7 : u2.toInt ≠ 14 := ql_ne (k := 14) c7
  have ec8 : u2.toInt ≠ 15 := ql_ne (k := 15) c8
  have ec9 : u2.toInt ≠ 16 := ql_ne (k := 16) c9
  have ec10 : u2.toInt ≠ 17 := ql_ne (k := 17) c10
  have ec11 : u2.toInt ≠ 18 := ql_ne (k := 18) c11
  have ec12 : u2.toInt ≠ 19 := ql_ne (k := 19) c12
  have ec13 : u2.toInt ≠ 20 := ql_ne (k := 20) c13
  have ec17 : u2.toInt ≠ 21 := ql_ne (k := 21) c17
  refine lv_tableOut (tgt := 161) hx hb dX7_readOne_4 (by omega) (by decide) ?_
  exact w_X7_readOne_161 C0 N r1 fr lo h1 _ hf _ _ _ hP hD hS (lv_sub hl [0] rfl)
set_option maxRecDepth 100000 in
theorem c_X7_readOneP (l : Launch) (dC : Nat → ClassId) (dI : Nat → Nat → Nat) (h : Nat) (ad : Nat → Nat) (hp : Nat) (pad : Nat → Nat) (cI : ClassId) (N : Nat) (r1 : ql_Y → Int32 → Option (Int32 × ql_Y)) (fr lo : Nat) (h1 : ∀ (z : ql_Y) (x0 : Int32) (res : Int32 × ql_Y), r1 z x0 = some res → ql_Mi l yX7_readOne wsX7_readOne { frames := fr, cells := 0, slots := 0, locals := lo } (dC, dI) [(cI, .int)] (ql_rw h ad hp pad cI) [.ref h, .int x0] z res) (z : ql_Y) (x1 : Int32) (res : Int32 × ql_Y) (hf : f_X7_readOneP N r1 z x1 = some res) : ql_Mi l yX7_readOne wsX7_readOne (rm_X7_readOne fr lo) (dC, dI) [(cI, .int)] (ql_rw h ad hp pad cI) [.ref h, .int x1] z res :=
  ql_start_i (by decide) rfl (Nat.le_of_ble_eq_true rfl) (fun p e s m below meth c A ls C0 hl hP hD hS => w_X7_readOne_0 C0 N r1 fr lo h1 z x1 hf s.heap [] ls hP hD hS (lv_sub (show lv_has ls 2 [(0, .ref h), (1, .int x1)] from hl) [0, 1] rfl))
def f_X7_readOne (N : Nat) : Nat → ql_Y → Int32 → Option (Int32 × ql_Y)
  | 0, _, _ => none
  | d + 1, z, x1 => f_X7_readOneP N (f_X7_readOne N d) z x1
theorem c_X7_readOne (l : Launch) (dC : Nat → ClassId) (dI : Nat → Nat → Nat) (h : Nat) (ad : Nat → Nat) (hp : Nat) (pad : Nat → Nat) (cI : ClassId) (N : Nat) : ∀ (d : Nat) (z : ql_Y) (x1 : Int32) (res : Int32 × ql_Y), f_X7_readOne N d z x1 = some res → ql_Mi l yX7_readOne wsX7_readOne { frames := 3 * d, cells := 0, slots := 0, locals := 68 * d } (dC, dI) [(cI, .int)] (ql_rw h ad hp pad cI) [.ref h, .int x1] z res
  | 0, z, x1, res, hf => by cases hf
  | d + 1, z, x1, res, hf => c_X7_readOneP l dC dI h ad hp pad cI N (f_X7_readOne N d) (3 * d) (68 * d) (c_X7_readOne l dC dI h ad hp pad cI N d) z x1 res hf
abbrev rm_X7_readTestC : Room := { frames := 31, cells := 0, slots := 0, locals := 701 }
def f_X7_readTestC (N : Nat) (z : ql_Y) (x1 : Int32) : Option (Int32 × ql_Y) := f_X7_readTest N (f_X7_readOne N 10) z x1
theorem c_X7_readTestC (l : Launch) (dC : Nat → ClassId) (dI : Nat → Nat → Nat) (h : Nat) (ad : Nat → Nat) (hp : Nat) (pad : Nat → Nat) (cI : ClassId) (N : Nat) (z : ql_Y) (x1 : Int32) (res : Int32 × ql_Y) (hf : f_X7_readTestC N z x1 = some res) : ql_Mi l yX7_readTest wsX7_readTest rm_X7_readTestC (dC, dI) [(cI, .int)] (ql_rw h ad hp pad cI) [.ref h, .int x1] z res := c_X7_readTest l dC dI h ad hp pad cI N (f_X7_readOne N 10) 30 680 (c_X7_readOne l dC dI h ad hp pad cI N 10) z x1 res hf
abbrev rm_X7_readBracketsC : Room := { frames := 32, cells := 0, slots := 0, locals := 726 }
def f_X7_readBracketsC (N : Nat) (z : ql_Y) (x1 : Int32) : Option (Int32 × ql_Y) := f_X7_readBrackets N (f_X7_readOne N 10) z x1
theorem c_X7_readBracketsC (l : Launch) (dC : Nat → ClassId) (dI : Nat → Nat → Nat) (h : Nat) (ad : Nat → Nat) (hp : Nat) (pad : Nat → Nat) (cI : ClassId) (N : Nat) (z : ql_Y) (x1 : Int32) (res : Int32 × ql_Y) (hf : f_X7_readBracketsC N z x1 = some res) : ql_Mi l yX7_readBrackets wsX7_readBrackets rm_X7_readBracketsC (dC, dI) [(cI, .int)] (ql_rw h ad hp pad cI) [.ref h, .int x1] z res := c_X7_readBrackets l dC dI h ad hp pad cI N (f_X7_readOne N 10) 30 680 (c_X7_readOne l dC dI h ad hp pad cI N 10) z x1 res hf
abbrev rm_X7_readNotC : Room := { frames := 31, cells := 0, slots := 0, locals := 701 }
def f_X7_readNotC (N : Nat) (z : ql_Y) (x1 : Int32) : Option (Int32 × ql_Y) := f_X7_readNot N (f_X7_readOne N 10) z x1
theorem c_X7_readNotC (l : Launch) (dC : Nat → ClassId) (dI : Nat → Nat → Nat) (h : Nat) (ad : Nat → Nat) (hp : Nat) (pad : Nat → Nat) (cI : ClassId) (N : Nat) (z : ql_Y) (x1 : Int32) (res : Int32 × ql_Y) (hf : f_X7_readNotC N z x1 = some res) : ql_Mi l yX7_readNot wsX7_readNot rm_X7_readNotC (dC, dI) [(cI, .int)] (ql_rw h ad hp pad cI) [.ref h, .int x1] z res := c_X7_readNot l dC dI h ad hp pad cI N (f_X7_readOne N 10) 30 680 (c_X7_readOne l dC dI h ad hp pad cI N 10) z x1 res hf
abbrev rm_X7_readOneC : Room := { frames := 30, cells := 0, slots := 0, locals := 680 }
def f_X7_readOneC (N : Nat) (z : ql_Y) (x1 : Int32) : Option (Int32 × ql_Y) := f_X7_readOne N 10 z x1
theorem c_X7_readOneC (l : Launch) (dC : Nat → ClassId) (dI : Nat → Nat → Nat) (h : Nat) (ad : Nat → Nat) (hp : Nat) (pad : Nat → Nat) (cI : ClassId) (N : Nat) (z : ql_Y) (x1 : Int32) (res : Int32 × ql_Y) (hf : f_X7_readOneC N z x1 = some res) : ql_Mi l yX7_readOne wsX7_readOne rm_X7_readOneC (dC, dI) [(cI, .int)] (ql_rw h ad hp pad cI) [.ref h, .int x1] z res := c_X7_readOne l dC dI h ad hp pad cI N 10 z x1 res hf
