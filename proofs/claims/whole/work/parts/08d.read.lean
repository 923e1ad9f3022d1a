def ql_dw (h : Nat) (ad : Nat → Nat) (hp : Nat) (pad : Nat → Nat) (tx : Nat) (cI cB : ClassId) (B : Nat → Int32) (z : ql_Y) : va_W := ql_rc h ad hp cI z.1 ++ (ql_pw hp pad cI z.2 ++ [(tx, .inl (cB, 300, .inl B))])
/-! ===== TestedLoops$Reader.read([BI)I ===== -/
abbrev rm_X7_read : Room := { frames := 332, cells := 0, slots := 0, locals := 7544 }
theorem iw_X7_read_X7 : ∀ w ∈ wsX70, w ∈ wsX7_read := fun w h => List.mem_cons_of_mem _ (List.mem_append_left _ (List.mem_append_right _ h))
theorem iw_X7_read_X6 : ∀ w ∈ wsX60, w ∈ wsX7_read := fun w h => List.mem_cons_of_mem _ (List.mem_append_right _ h)
theorem qv_X7_read : yX7_read.cls = RX7 ∧ yX7_read.cls ≠ "java/lang/invoke/MethodHandle" ∧ yX7_read.cls ≠ "java/lang/invoke/VarHandle" ∧ (parseMethodDescriptor yX7_read.desc).map (fun d => d.parameters.length) = some 2 := by decide +kernel
def f_X7_read_53 (N : Nat) (hp : Nat) (B : Nat → Int32) (z : ql_Y) : Option (Int32 × ql_Y) := some ((z.1 3 0), z)
def f_X7_read_0 (N : Nat) (hp : Nat) (B : Nat → Int32) (z : ql_Y) (x2 : Int32) : Option (Int32 × ql_Y) := (f_X6_empty N z.2).bind fun u1 => (f_X7_scan N B z.1 (if 300 < x2 then 300 else x2)).bind fun u2 => (f_X7_readStatementsC N ((ql_up (ql_up u2 2 (fun _ => 0)) 3 (fun _ => (-1))), u1) 0).bind fun u3 => if u3.1 = 0 then f_X7_read_53 N hp B (u3.2.1, u3.2.2) else (f_X7_isNow N (u3.2.1, u3.2.2) 23).bind fun u5 => if u5.1 = 0 then f_X7_read_53 N hp B (u5.2.1, u5.2.2) else (f_X6_settle N u5.2.2).bind fun u7 => f_X7_read_53 N hp B (u5.2.1, u7)
def f_X7_read (N : Nat) (hp : Nat) (B : Nat → Int32) (z : ql_Y) (x2 : Int32) : Option (Int32 × ql_Y) := f_X7_read_0 N hp B z x2
set_option maxHeartbeats 4000000 in
set_option maxRecDepth 100000 in
theorem w_X7_read_53 {p : Program} {l : Launch} {e : Env} {s : State} {m : MethodId} {args : Array Value} {below : List Frame} {meth : Method} {c : Code} {dC : Nat → ClassId} {dI : Nat → Nat → Nat} {A : Nat → Prop} {adK adV : Nat → Nat} {h : Nat} {ad : Nat → Nat} {pad : Nat → Nat} {tx : Nat} {cI cB : ClassId} {res : Int32 × ql_Y} (C0 : ql_C p s m args meth c cX7_read 3 (some .int) wsX7_read RX7 (dC, dI) [(cI, .int), (cB, .byte)] A) (N : Nat) (hp : Nat) (B : Nat → Int32) (hE : ql_E adK adV A s s.heap) : ∀ (z : ql_Y), f_X7_read_53 N hp B z = some res → ∀ (H : Heap) (locs : List Loc) (ls : Array Slot), va_P (dC, dI) vwCl ((ql_dw h ad hp pad tx cI cB B) z) H → va_D A ((ql_dw h ad hp pad tx cI cB B) z) → va_S A s.heap H locs → lv_has ls 3 [(0, .ref h)] → W p l e rm_X7_read s m args below meth c H locs 0 0 (ql_Qi below (dC, dI) (ql_dw h ad hp pad tx cI cB B) A args s res) (F0 m 53 ls []) := by
  have C0q := C0
  obtain ⟨hx, hb, hr, hml, hown, hts, hlocks, hK, hA⟩ := C0q
  have fl42 := hts (Cond.fieldLink RX7 42 "TestedLoops$Reader" "fault" "I") (by decide +kernel)
  intro z hf H locs ls hP hD hS hl
  unfold f_X7_read_53 at hf
  refine lv_aload_n hx hb dX7_read_53 rfl (lv_at hl 0 rfl) ?_
  refine va_get (D := (dC, dI)) (ci := 7) (v := .int (z.1 3 0)) (C := RX7) (T := TX7) (N := 5) hx hb hts iw_X7_read_X7 hown hK.1 hP 0 rfl rfl 3 (by decide) fl42 (fun _ h9 => h9) rfl dX7_read_54 ?_
  exact ql_iret C0 hf hP hD hS dX7_read_57
set_option maxHeartbeats 4000000 in
set_option maxRecDepth 100000 in
theorem w_X7_read_0 {p : Program} {l : Launch} {e : Env} {s : State} {m : MethodId} {args : Array Value} {below : List Frame} {meth : Method} {c : Code} {dC : Nat → ClassId} {dI : Nat → Nat → Nat} {A : Nat → Prop} {adK adV : Nat → Nat} {h : Nat} {ad : Nat → Nat} {pad : Nat → Nat} {tx : Nat} {cI cB : ClassId} {res : Int32 × ql_Y} (C0 : ql_C p s m args meth c cX7_read 3 (some .int) wsX7_read RX7 (dC, dI) [(cI, .int), (cB, .byte)] A) (N : Nat) (hp : Nat) (B : Nat → Int32) (hE : ql_E adK adV A s s.heap) : ∀ (z : ql_Y) (x2 : Int32), f_X7_read_0 N hp B z x2 = some res → ∀ (H : Heap) (locs : List Loc) (ls : Array Slot), va_P (dC, dI) vwCl ((ql_dw h ad hp pad tx cI cB B) z) H → va_D A ((ql_dw h ad hp pad tx cI cB B) z) → va_S A s.heap H locs → lv_has ls 3 [(0, .ref h), (1, .ref tx), (2, .int x2)] → W p l e rm_X7_read s m args below meth c H locs 0 0 (ql_Qi below (dC, dI) (ql_dw h ad hp pad tx cI cB B) A args s res) (F0 m 0 ls []) := by
  have C0q := C0
  obtain ⟨hx, hb, hr, hml, hown, hts, hlocks, hK, hA⟩ := C0q
  have fl21 := hts (Cond.fieldLink RX7 21 "TestedLoops$Reader" "plan" "LTestedLoops$Plan;") (by decide +kernel)
  have fl38 := hts (Cond.fieldLink RX7 38 "TestedLoops$Reader" "now" "I") (by decide +kernel)
  have fl42 := hts (Cond.fieldLink RX7 42 "TestedLoops$Reader" "fault" "I") (by decide +kernel)
  intro z x2 hf H locs ls hP hD hS hl
  unfold f_X7_read_0 at hf
  refine lv_aload_n hx hb dX7_read_0 rfl (lv_at hl 0 rfl) ?_
  refine va_get (D := (dC, dI)) (ci := 7) (v := .ref hp) (C := RX7) (T := TX7) (N := 5) hx hb hts iw_X7_read_X7 hown hK.1 hP 0 rfl rfl 4 (by decide) fl21 (fun _ h9 => h9) rfl dX7_read_1 ?_
  obtain ⟨u1, hu1, hf⟩ := ql_bd hf
  refine ql_subVv (wr := ql_rc h ad hp cI z.1 ++ [(tx, .inl (cB, 300, .inl B))]) (As := []) (rest := []) C0 (c_X6_empty l dC dI hp pad cI N z.2 u1 hu1) (cwV 0 hts gX7_read_X6_empty rfl rfl rfl qv_X6_empty ⟨Nat.le_of_ble_eq_true rfl, Nat.le_of_ble_eq_true rfl⟩) (hK.sub [0] rfl) [3, 4, 5, 6, 7, 8, 9, 10] [0, 1, 2, 11] rfl rfl rfl rfl (by decide) (va_recv hK.1 hP (ci := 6) (q0 := 3) rfl rfl) hP hD hS hl.1 rfl rfl (Nat.le_of_ble_eq_true rfl) dX7_read_4 (fun H locs hP hD hS => ?_)
  have hP : va_P (dC, dI) vwCl ((ql_dw h ad hp pad tx cI cB B) (z.1, u1)) _ := hP.sub [0, 1, 2, 4, 5, 6, 7, 8, 9, 10, 11, 3] rfl
  have hD : va_D A ((ql_dw h ad hp pad tx cI cB B) (z.1, u1)) := hD.sub [0, 1, 2, 4, 5, 6, 7, 8, 9, 10, 11, 3] (by decide) rfl
  refine lv_aload_n hx hb dX7_read_7 rfl (lv_at hl 0 rfl) ?_
  refine lv_aload_n hx hb dX7_read_8 rfl (lv_at hl 1 rfl) ?_
  refine lv_iload_n hx hb dX7_read_9 rfl (lv_at hl 2 rfl) ?_
  refine lv_sipush (v := 300) hx hb dX7_read_10 (by decide) ?_
  refine va_mmin hx hb (hml.trans hl.1.symm) hown (hts (.methodLink RX7 28 Lib.Math.min.name) (by decide +kernel)) (hts (.static Lib.Math.min.name) (by decide +kernel)) (hts (.initialized "java/lang/Math") (by decide +kernel)) (hts (.code Lib.Math.min.name Lib.Math.min.code 2 (some .int)) (by decide +kernel)) (Nat.le_of_ble_eq_true rfl) (Nat.le_of_ble_eq_true rfl) (Nat.zero_le _) (Nat.zero_le _) dX7_read_13 ?_
  obtain ⟨u2, hu2, hf⟩ := ql_bd hf
  refine ql_subVvE (wr := ql_pw hp pad cI u1) (As := [.ref tx, .int (if 300 < x2 then 300 else x2)]) (rest := []) C0 hE (c_X7_scan l dC dI adK adV h ad hp tx cI cB N B z.1 (if 300 < x2 then 300 else x2) u2 hu2) (cwV 2 hts gX7_read_X7_scan rfl rfl rfl qv_X7_scan ⟨Nat.le_of_ble_eq_true rfl, Nat.le_of_ble_eq_true rfl⟩) (hK.sub [0, 1] rfl) [0, 1, 2, 11] [3, 4, 5, 6, 7, 8, 9, 10] rfl rfl rfl rfl (by decide) (va_recv hK.1 hP (ci := 7) (q0 := 0) rfl rfl) hP hD hS hl.1 rfl rfl (Nat.le_of_ble_eq_true rfl) dX7_read_16 (fun H locs hP hD hS => ?_)
  have hP : va_P (dC, dI) vwCl ((ql_dw h ad hp pad tx cI cB B) (u2, u1)) _ := hP.sub [8, 9, 10, 0, 1, 2, 3, 4, 5, 6, 7, 11] rfl
  have hD : va_D A ((ql_dw h ad hp pad tx cI cB B) (u2, u1)) := hD.sub [8, 9, 10, 0, 1, 2, 3, 4, 5, 6, 7, 11] (by decide) rfl
  refine lv_aload_n hx hb dX7_read_19 rfl (lv_at hl 0 rfl) ?_
  refine lv_iconst (v := 0) hx hb dX7_read_20 (by decide) ?_
  refine va_put (D := (dC, dI)) (ci := 7) (v := .int 0) (ty := .int) (C := RX7) (T := TX7) (N := 5) hx hb hts iw_X7_read_X7 tyX7 tyX7_ok nmX7 hown hK.1 hP hD hS 0 rfl rfl 2 (by decide) fl38 (fun _ h9 => h9) rfl (by decide +kernel) rfl rfl (Nat.le_of_ble_eq_true rfl) dX7_read_21 (fun H locs hP hD hS => ?_)
  refine lv_aload_n hx hb dX7_read_24 rfl (lv_at hl 0 rfl) ?_
  refine lv_iconst (v := (-1)) hx hb dX7_read_25 (by decide) ?_
  refine va_put (D := (dC, dI)) (ci := 7) (v := .int (-1)) (ty := .int) (C := RX7) (T := TX7) (N := 5) hx hb hts iw_X7_read_X7 tyX7 tyX7_ok nmX7 hown hK.1 hP hD hS 0 rfl rfl 3 (by decide) fl42 (fun _ h9 => h9) rfl (by decide +kernel) rfl rfl (Nat.le_of_ble_eq_true rfl) dX7_read_26 (fun H locs hP hD hS => ?_)
  refine lv_aload_n hx hb dX7_read_29 rfl (lv_at hl 0 rfl) ?_
  refine lv_iconst (v := 0) hx hb dX7_read_30 (by decide) ?_
  obtain ⟨u3, hu3, hf⟩ := ql_bd hf
  refine ql_subVi (wr := [(tx, .inl (cB, 300, .inl B))]) (As := [.int 0]) (rest := []) C0 (c_X7_readStatementsC l dC dI h ad hp pad cI N ((ql_up (ql_up u2 2 (fun _ => 0)) 3 (fun _ => (-1))), u1) 0 u3 hu3) (cwV 1 hts gX7_read_X7_readStatements rfl rfl rfl qv_X7_readStatements ⟨Nat.le_of_ble_eq_true rfl, Nat.le_of_ble_eq_true rfl⟩) (hK.sub [0] rfl) [0, 1, 2, 3, 4, 5, 6, 7, 8, 9, 10] [11] rfl rfl rfl rfl (by decide) (va_recv hK.1 hP (ci := 7) (q0 := 0) rfl rfl) hP hD hS hl.1 rfl rfl (Nat.le_of_ble_eq_true rfl) dX7_read_31 (fun H locs hP hD hS => ?_)
  have hP : va_P (dC, dI) vwCl ((ql_dw h ad hp pad tx cI cB B) (u3.2.1, u3.2.2)) _ := hP.sub [1, 2, 3, 4, 5, 6, 7, 8, 9, 10, 11, 0] rfl
  have hD : va_D A ((ql_dw h ad hp pad tx cI cB B) (u3.2.1, u3.2.2)) := hD.sub [1, 2, 3, 4, 5, 6, 7, 8, 9, 10, 11, 0] (by decide) rfl
  refine lv_if_eq (tgt := 53) hx hb dX7_read_34 (by decide) (fun c4 => ?_) (fun c4 => ?_)
  · have hf := (if_pos c4).symm.trans hf
    exact w_X7_read_53 C0 N hp B hE _ hf _ _ _ hP hD hS (lv_sub hl [0] rfl)
  · have hf := (if_neg c4).symm.trans hf
    refine lv_aload_n hx hb dX7_read_37 rfl (lv_at hl 0 rfl) ?_
    refine lv_bipush (v := 23) hx hb dX7_read_38 (by decide) ?_
    obtain ⟨u5, hu5, hf⟩ := ql_bd hf
    refine ql_subVi (wr := [(tx, .inl (cB, 300, .inl B))]) (As := [.int 23]) (rest := []) C0 (c_X7_isNow l dC dI h ad hp pad cI N (u3.2.1, u3.2.2) 23 u5 hu5) (cwV 1 hts gX7_read_X7_isNow rfl rfl rfl qv_X7_isNow ⟨Nat.le_of_ble_eq_true rfl, Nat.le_of_ble_eq_true rfl⟩) (hK.sub [0] rfl) [0, 1, 2, 3, 4, 5, 6, 7, 8, 9, 10] [11] rfl rfl rfl rfl (by decide) (va_recv hK.1 hP (ci := 7) (q0 := 0) rfl rfl) hP hD hS hl.1 rfl rfl (Nat.le_of_ble_eq_true rfl) dX7_read_40 (fun H locs hP hD hS => ?_)
    have hP : va_P (dC, dI) vwCl ((ql_dw h ad hp pad tx cI cB B) (u5.2.1, u5.2.2)) _ := hP.sub [1, 2, 3, 4, 5, 6, 7, 8, 9, 10, 11, 0] rfl
    have hD : va_D A ((ql_dw h ad hp pad tx cI cB B) (u5.2.1, u5.2.2)) := hD.sub [1, 2, 3, 4, 5, 6, 7, 8, 9, 10, 11, 0] (by decide) rfl
    refine lv_if_eq (tgt := 53) hx hb dX7_read_43 (by decide) (fun c6 => ?_) (fun c6 => ?_)
    · have hf := (if_pos c6).symm.trans hf
      exact w_X7_read_53 C0 N hp B hE _ hf _ _ _ hP hD hS (lv_sub hl [0] rfl)
    · have hf := (if_neg c6).symm.trans hf
      refine lv_aload_n hx hb dX7_read_46 rfl (lv_at hl 0 rfl) ?_
      refine va_get (D := (dC, dI)) (ci := 7) (v := .ref hp) (C := RX7) (T := TX7) (N := 5) hx hb hts iw_X7_read_X7 hown hK.1 hP 0 rfl rfl 4 (by decide) fl21 (fun _ h9 => h9) rfl dX7_read_47 ?_
      obtain ⟨u7, hu7, hf⟩ := ql_bd hf
      refine ql_subVv (wr := ql_rc h ad hp cI u5.2.1 ++ [(tx, .inl (cB, 300, .inl B))]) (As := []) (rest := []) C0 (c_X6_settle l dC dI hp pad cI N u5.2.2 u7 hu7) (cwV 0 hts gX7_read_X6_settle rfl rfl rfl qv_X6_settle ⟨Nat.le_of_ble_eq_true rfl, Nat.le_of_ble_eq_true rfl⟩) (hK.sub [0] rfl) [3, 4, 5, 6, 7, 8, 9, 10] [0, 1, 2, 11] rfl rfl rfl rfl (by decide) (va_recv hK.1 hP (ci := 6) (q0 := 3) rfl rfl) hP hD hS hl.1 rfl rfl (Nat.le_of_ble_eq_true rfl) dX7_read_50 (fun H locs hP hD hS => ?_)
      have hP : va_P (dC, dI) vwCl ((ql_dw h ad hp pad tx cI cB B) (u5.2.1, u7)) _ := hP.sub [0, 1, 2, 4, 5, 6, 7, 8, 9, 10, 11, 3] rfl
      have hD : va_D A ((ql_dw h ad hp pad tx cI cB B) (u5.2.1, u7)) := hD.sub [0, 1, 2, 4, 5, 6, 7, 8, 9, 10, 11, 3] (by decide) rfl
      exact w_X7_read_53 C0 N hp B hE _ hf _ _ _ hP hD hS (lv_sub hl [0] rfl)
set_option maxRecDepth 100000 in
theorem c_X7_read (l : Launch) (dC : Nat → ClassId) (dI : Nat → Nat → Nat) (adK adV : Nat → Nat) (h : Nat) (ad : Nat → Nat) (pad : Nat → Nat) (tx : Nat) (cI cB : ClassId) (N : Nat) (hp : Nat) (B : Nat → Int32) (z : ql_Y) (x2 : Int32) (res : Int32 × ql_Y) (hf : f_X7_read N hp B z x2 = some res) : ql_MiE adK adV l yX7_read wsX7_read rm_X7_read (dC, dI) [(cI, .int), (cB, .byte)] (ql_dw h ad hp pad tx cI cB B) [.ref h, .ref tx, .int x2] z res :=
  ql_start_iE (by decide) rfl (Nat.le_of_ble_eq_true rfl) (fun p e s m below meth c A ls C0 hl hP hD hS hE => w_X7_read_0 C0 N hp B hE z x2 hf s.heap [] ls hP hD hS (lv_sub (show lv_has ls 3 [(0, .ref h), (1, .ref tx), (2, .int x2)] from hl) [0, 1, 2] rfl))
