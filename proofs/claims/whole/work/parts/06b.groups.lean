def ql_gc (h : Nat) (ad : Nat → Nat) (cI : ClassId) (z : ql_St) : va_W := [(h, .inr (2, [.ref (ad 0), .ref (ad 1)])), (ad 0, .inl (cI, 17, .inl (z 0))), (ad 1, .inl (cI, 17, .inl (z 1)))]
def ql_gw (h : Nat) (ad : Nat → Nat) (cI : ClassId) (pad : Nat → Nat → Nat) (P : Nat → ql_St) (z : ql_St) : va_W := ql_gc h ad cI z ++ ql_pls pad cI P
/-! ===== TestedLoops$Groups.trail(LTestedLoops$Plan;II)I ===== -/
abbrev rm_X2_trail : Room := { frames := 2, cells := 0, slots := 0, locals := 44 }
theorem iw_X2_trail_X2 : ∀ w ∈ wsX20, w ∈ wsX2_trail := fun w h => List.mem_cons_of_mem _ (List.mem_append_left _ (List.mem_append_right _ h))
theorem iw_X2_trail_X6 : ∀ w ∈ wsX60, w ∈ wsX2_trail := fun w h => List.mem_cons_of_mem _ (List.mem_append_right _ h)
theorem qv_X2_trail : yX2_trail.cls = RX2 ∧ yX2_trail.cls ≠ "java/lang/invoke/MethodHandle" ∧ yX2_trail.cls ≠ "java/lang/invoke/VarHandle" ∧ (parseMethodDescriptor yX2_trail.desc).map (fun d => d.parameters.length) = some 3 := by decide +kernel
def f_X2_trail_0 (N : Nat) (P : Nat → ql_St) (z : ql_St) (i1 : Nat) (x2 : Int32) (x3 : Int32) : Option (Int32) := (f_X6_goes N (P i1) x2 x3).bind fun u1 => if u1 = 0 then some 0 else (f_X6_isPlace N (P i1) u1).bind fun u3 => if u3 = 0 then some (-1) else (f_X6_isLive N (P i1) u1).bind fun u5 => if u5 = 0 then some (-1) else (f_X6_actAt N (P i1) u1).bind fun u7 => if ql_ib u1 17 = true then some ((u7 * 17) + ((z 0) u1.toNatClampNeg)) else none
def f_X2_trail (N : Nat) (P : Nat → ql_St) (z : ql_St) (i1 : Nat) (x2 : Int32) (x3 : Int32) : Option (Int32) := f_X2_trail_0 N P z i1 x2 x3
set_option maxHeartbeats 4000000 in
set_option maxRecDepth 100000 in
theorem w_X2_trail_0 {p : Program} {l : Launch} {e : Env} {s : State} {m : MethodId} {args : Array Value} {below : List Frame} {meth : Method} {c : Code} {dC : Nat → ClassId} {dI : Nat → Nat → Nat} {A : Nat → Prop} {h : Nat} {ad : Nat → Nat} {cI : ClassId} {pad : Nat → Nat → Nat} {res : Int32} (C0 : ql_C p s m args meth c cX2_trail 5 (some .int) wsX2_trail RX2 (dC, dI) [(cI, .int)] A) (N : Nat) (P : Nat → ql_St) (z : ql_St) : ∀ (i1 : Nat) (x2 : Int32) (x3 : Int32), i1 < 5 → f_X2_trail_0 N P z i1 x2 x3 = some res → ∀ (H : Heap) (locs : List Loc) (ls : Array Slot), va_P (dC, dI) vwCl ((ql_gw h ad cI pad P) z) H → va_S A s.heap H locs → lv_has ls 5 [(0, .ref h), (1, .ref (pad i1 100)), (2, .int x2), (3, .int x3)] → W p l e rm_X2_trail s m args below meth c H locs 0 0 (ql_Qri below A args s res) (F0 m 0 ls []) := by
  have C0q := C0
  obtain ⟨hx, hb, hr, hml, hown, hts, hlocks, hK, hA⟩ := C0q
  have fl9 := hts (Cond.fieldLink RX2 9 "TestedLoops$Groups" "first" "[I") (by decide +kernel)
  intro i1 x2 x3 gi1 hf H locs ls hP hS hl
  unfold f_X2_trail_0 at hf
  refine lv_aload_n hx hb dX2_trail_0 rfl (lv_at hl 1 rfl) ?_
  refine lv_iload_n hx hb dX2_trail_1 rfl (lv_at hl 2 rfl) ?_
  refine lv_iload_n hx hb dX2_trail_2 rfl (lv_at hl 3 rfl) ?_
  obtain ⟨u1, hu1, hf⟩ := ql_bd hf
  refine ql_callRVi (As := [.int x2, .int x3]) (rest := []) C0 (c_X6_goes l dC dI (pad i1 100) (pad i1) cI N (P i1) x2 x3 u1 hu1) (cwV 2 hts gX2_trail_X6_goes rfl rfl rfl qv_X6_goes ⟨Nat.le_of_ble_eq_true rfl, Nat.le_of_ble_eq_true rfl⟩) (va_recv hK.1 (ql_pl 3 hP rfl gi1) (ci := 6) (q0 := 0) rfl rfl) (hK.sub [0] rfl) (ql_pl 3 hP rfl gi1) hS hl.1 rfl rfl (Nat.le_of_ble_eq_true rfl) dX2_trail_3 (fun H1 locs hk hS => ?_)
  have hP := ql_keep hP hk
  refine lv_istore (lv' := [(4, .int u1), (0, .ref h), (1, .ref (pad i1 100)), (2, .int x2), (3, .int x3)]) hx hb dX2_trail_6 hl (by decide) rfl (fun ls hl => ?_)
  refine lv_iload hx hb dX2_trail_8 (lv_at hl 0 rfl) ?_
  refine lv_if_ne (tgt := 15) hx hb dX2_trail_10 (by decide) (fun c2 => ?_) (fun c2 => ?_)
  · have hf := (if_neg c2).symm.trans hf
    refine lv_aload_n hx hb dX2_trail_15 rfl (lv_at hl 2 rfl) ?_
    refine lv_iload hx hb dX2_trail_16 (lv_at hl 0 rfl) ?_
    obtain ⟨u3, hu3, hf⟩ := ql_bd hf
    refine ql_callRVi (As := [.int u1]) (rest := []) C0 (c_X6_isPlace l dC dI (pad i1 100) (pad i1) cI N (P i1) u1 u3 hu3) (cwV 1 hts gX2_trail_X6_isPlace rfl rfl rfl qv_X6_isPlace ⟨Nat.le_of_ble_eq_true rfl, Nat.le_of_ble_eq_true rfl⟩) (va_recv hK.1 (ql_pl 3 hP rfl gi1) (ci := 6) (q0 := 0) rfl rfl) (hK.sub [0] rfl) (ql_pl 3 hP rfl gi1) hS hl.1 rfl rfl (Nat.le_of_ble_eq_true rfl) dX2_trail_18 (fun H1 locs hk hS => ?_)
    have hP := ql_keep hP hk
    refine lv_if_eq (tgt := 33) hx hb dX2_trail_21 (by decide) (fun c4 => ?_) (fun c4 => ?_)
    · have hf := (if_pos c4).symm.trans hf
      refine lv_iconst (v := (-1)) hx hb dX2_trail_33 (by decide) ?_
      exact ql_riret C0 hf hS dX2_trail_34
    · have hf := (if_neg c4).symm.trans hf
      refine lv_aload_n hx hb dX2_trail_24 rfl (lv_at hl 2 rfl) ?_
      refine lv_iload hx hb dX2_trail_25 (lv_at hl 0 rfl) ?_
      obtain ⟨u5, hu5, hf⟩ := ql_bd hf
      refine ql_callRVi (As := [.int u1]) (rest := []) C0 (c_X6_isLive l dC dI (pad i1 100) (pad i1) cI N (P i1) u1 u5 hu5) (cwV 1 hts gX2_trail_X6_isLive rfl rfl rfl qv_X6_isLive ⟨Nat.le_of_ble_eq_true rfl, Nat.le_of_ble_eq_true rfl⟩) (va_recv hK.1 (ql_pl 3 hP rfl gi1) (ci := 6) (q0 := 0) rfl rfl) (hK.sub [0] rfl) (ql_pl 3 hP rfl gi1) hS hl.1 rfl rfl (Nat.le_of_ble_eq_true rfl) dX2_trail_27 (fun H1 locs hk hS => ?_)
      have hP := ql_keep hP hk
      refine lv_if_ne (tgt := 35) hx hb dX2_trail_30 (by decide) (fun c6 => ?_) (fun c6 => ?_)
      · have hf := (if_neg c6).symm.trans hf
        refine lv_aload_n hx hb dX2_trail_35 rfl (lv_at hl 2 rfl) ?_
        refine lv_iload hx hb dX2_trail_36 (lv_at hl 0 rfl) ?_
        obtain ⟨u7, hu7, hf⟩ := ql_bd hf
        refine ql_callRVi (As := [.int u1]) (rest := []) C0 (c_X6_actAt l dC dI (pad i1 100) (pad i1) cI N (P i1) u1 u7 hu7) (cwV 1 hts gX2_trail_X6_actAt rfl rfl rfl qv_X6_actAt ⟨Nat.le_of_ble_eq_true rfl, Nat.le_of_ble_eq_true rfl⟩) (va_recv hK.1 (ql_pl 3 hP rfl gi1) (ci := 6) (q0 := 0) rfl rfl) (hK.sub [0] rfl) (ql_pl 3 hP rfl gi1) hS hl.1 rfl rfl (Nat.le_of_ble_eq_true rfl) dX2_trail_38 (fun H1 locs hk hS => ?_)
        have hP := ql_keep hP hk
        refine lv_bipush (v := 17) hx hb dX2_trail_41 (by decide) ?_
        refine lv_imul hx hb dX2_trail_43 ?_
        refine lv_aload_n hx hb dX2_trail_44 rfl (lv_at hl 1 rfl) ?_
        refine va_get (D := (dC, dI)) (ci := 2) (v := .ref (ad 0)) (C := RX2) (T := TX2) (N := 2) hx hb hts iw_X2_trail_X2 hown hK.1 hP 0 rfl rfl 0 (by decide) fl9 (fun _ h9 => h9) rfl dX2_trail_45 ?_
        refine lv_iload hx hb dX2_trail_48 (lv_at hl 0 rfl) ?_
        have g0 := ql_in (ql_gt hf)
        have hf := ql_gx hf
        refine va_iald (f := (z 0)) hx hb hK.1 hP 1 0 rfl rfl g0 dX2_trail_50 ?_
        refine lv_iadd hx hb dX2_trail_51 ?_
        exact ql_riret C0 hf hS dX2_trail_52
      · have hf := (if_pos c6).symm.trans hf
        refine lv_iconst (v := (-1)) hx hb dX2_trail_33 (by decide) ?_
        exact ql_riret C0 hf hS dX2_trail_34
  · have hf := (if_pos c2).symm.trans hf
    refine lv_iconst (v := 0) hx hb dX2_trail_13 (by decide) ?_
    exact ql_riret C0 hf hS dX2_trail_14
set_option maxRecDepth 100000 in
theorem c_X2_trail (l : Launch) (dC : Nat → ClassId) (dI : Nat → Nat → Nat) (h : Nat) (ad : Nat → Nat) (cI : ClassId) (pad : Nat → Nat → Nat) (N : Nat) (P : Nat → ql_St) (z : ql_St) (i1 : Nat) (x2 : Int32) (x3 : Int32) (gi1 : i1 < 5) (res : Int32) (hf : f_X2_trail N P z i1 x2 x3 = some res) : ql_Ri l yX2_trail wsX2_trail rm_X2_trail (dC, dI) [(cI, .int)] ((ql_gw h ad cI pad P) z) [.ref h, .ref (pad i1 100), .int x2, .int x3] res :=
  ql_start_ri (by decide) rfl (Nat.le_of_ble_eq_true rfl) (fun p e s m below meth c A ls C0 hl hP hS => w_X2_trail_0 C0 N P z i1 x2 x3 gi1 hf s.heap [] ls hP hS (lv_sub (show lv_has ls 5 [(0, .ref h), (1, .ref (pad i1 100)), (2, .int x2), (3, .int x3)] from hl) [0, 1, 2, 3] rfl))
/-! ===== TestedLoops$Groups.goAlike(LTestedLoops$Plan;II)Z ===== -/
abbrev rm_X2_goAlike : Room := { frames := 3, cells := 0, slots := 0, locals := 68 }
theorem iw_X2_goAlike_X2 : ∀ w ∈ wsX20, w ∈ wsX2_goAlike := fun w h => List.mem_cons_of_mem _ (List.mem_append_left _ (List.mem_append_right _ h))
theorem iw_X2_goAlike_X6 : ∀ w ∈ wsX60, w ∈ wsX2_goAlike := fun w h => List.mem_cons_of_mem _ (List.mem_append_right _ h)
theorem qv_X2_goAlike : yX2_goAlike.cls = RX2 ∧ yX2_goAlike.cls ≠ "java/lang/invoke/MethodHandle" ∧ yX2_goAlike.cls ≠ "java/lang/invoke/VarHandle" ∧ (parseMethodDescriptor yX2_goAlike.desc).map (fun d => d.parameters.length) = some 3 := by decide +kernel
def f_X2_goAlike_3 (N : Nat) (P : Nat → ql_St) (z : ql_St) : Nat → Nat → Int32 → Int32 → Int32 → Option (Int32)
  | 0, _, _, _, _ => none
  | n + 1, i1, x2, x3, x4 => if 4 ≤ x4 then some 1 else (f_X2_trail N P z i1 x2 x4).bind fun u2 => (f_X2_trail N P z i1 x3 x4).bind fun u3 => if u2 = u3 then f_X2_goAlike_3 N P z n i1 x2 x3 (x4 + 1) else some 0
def f_X2_goAlike_0 (N : Nat) (P : Nat → ql_St) (z : ql_St) (i1 : Nat) (x2 : Int32) (x3 : Int32) : Option (Int32) := f_X2_goAlike_3 N P z N i1 x2 x3 0
def f_X2_goAlike (N : Nat) (P : Nat → ql_St) (z : ql_St) (i1 : Nat) (x2 : Int32) (x3 : Int32) : Option (Int32) := f_X2_goAlike_0 N P z i1 x2 x3
set_option maxHeartbeats 4000000 in
set_option maxRecDepth 100000 in
theorem w_X2_goAlike_3 {p : Program} {l : Launch} {e : Env} {s : State} {m : MethodId} {args : Array Value} {below : List Frame} {meth : Method} {c : Code} {dC : Nat → ClassId} {dI : Nat → Nat → Nat} {A : Nat → Prop} {h : Nat} {ad : Nat → Nat} {cI : ClassId} {pad : Nat → Nat → Nat} {res : Int32} (C0 : ql_C p s m args meth c cX2_goAlike 5 (some .boolean) wsX2_goAlike RX2 (dC, dI) [(cI, .int)] A) (N : Nat) (P : Nat → ql_St) (z : ql_St) : ∀ (n : Nat), ∀ (i1 : Nat) (x2 : Int32) (x3 : Int32) (x4 : Int32), i1 < 5 → f_X2_goAlike_3 N P z n i1 x2 x3 x4 = some res → ∀ (H : Heap) (locs : List Loc) (ls : Array Slot), va_P (dC, dI) vwCl ((ql_gw h ad cI pad P) z) H → va_S A s.heap H locs → lv_has ls 5 [(0, .ref h), (1, .ref (pad i1 100)), (2, .int x2), (3, .int x3), (4, .int x4)] → W p l e rm_X2_goAlike s m args below meth c H locs 0 0 (ql_Qri below A args s res) (F0 m 3 ls []) := by
  have C0q := C0
  obtain ⟨hx, hb, hr, hml, hown, hts, hlocks, hK, hA⟩ := C0q
  intro n
  induction n with
  | zero =>
    intro i1 x2 x3 x4 gi1 hf
    rw [f_X2_goAlike_3] at hf
    cases hf
  | succ n ih =>
    intro i1 x2 x3 x4 gi1 hf H locs ls hP hS hl
    rw [f_X2_goAlike_3] at hf
    refine lv_iload hx hb dX2_goAlike_3 (lv_at hl 4 rfl) ?_
    refine lv_iconst (v := 4) hx hb dX2_goAlike_5 (by decide) ?_
    refine lv_icmp_ge (tgt := 36) hx hb dX2_goAlike_6 (by decide) (fun c1 => ?_) (fun c1 => ?_)
    · have hf := (if_pos c1).symm.trans hf
      refine lv_iconst (v := 1) hx hb dX2_goAlike_36 (by decide) ?_
      exact ql_rzret C0 (Or.inr rfl) hf hS dX2_goAlike_37
    · have hf := (if_neg c1).symm.trans hf
      refine lv_aload_n hx hb dX2_goAlike_9 rfl (lv_at hl 0 rfl) ?_
      refine lv_aload_n hx hb dX2_goAlike_10 rfl (lv_at hl 1 rfl) ?_
      refine lv_iload_n hx hb dX2_goAlike_11 rfl (lv_at hl 2 rfl) ?_
      refine lv_iload hx hb dX2_goAlike_12 (lv_at hl 4 rfl) ?_
      obtain ⟨u2, hu2, hf⟩ := ql_bd hf
      refine ql_callRVi (As := [.ref (pad i1 100), .int x2, .int x4]) (rest := []) C0 (c_X2_trail l dC dI h ad cI pad N P z i1 x2 x4 gi1 u2 hu2) (cwV 3 hts gX2_goAlike_X2_trail rfl rfl rfl qv_X2_trail ⟨Nat.le_of_ble_eq_true rfl, Nat.le_of_ble_eq_true rfl⟩) (va_recv hK.1 hP (ci := 2) (q0 := 0) rfl rfl) hK hP hS hl.1 rfl rfl (Nat.le_of_ble_eq_true rfl) dX2_goAlike_14 (fun H1 locs hk hS => ?_)
      have hP := ql_keep hP hk
      refine lv_aload_n hx hb dX2_goAlike_17 rfl (lv_at hl 0 rfl) ?_
      refine lv_aload_n hx hb dX2_goAlike_18 rfl (lv_at hl 1 rfl) ?_
      refine lv_iload_n hx hb dX2_goAlike_19 rfl (lv_at hl 3 rfl) ?_
      refine lv_iload hx hb dX2_goAlike_20 (lv_at hl 4 rfl) ?_
      obtain ⟨u3, hu3, hf⟩ := ql_bd hf
      refine ql_callRVi (As := [.ref (pad i1 100), .int x3, .int x4]) (rest := [.int u2]) C0 (c_X2_trail l dC dI h ad cI pad N P z i1 x3 x4 gi1 u3 hu3) (cwV 3 hts gX2_goAlike_X2_trail rfl rfl rfl qv_X2_trail ⟨Nat.le_of_ble_eq_true rfl, Nat.le_of_ble_eq_true rfl⟩) (va_recv hK.1 hP (ci := 2) (q0 := 0) rfl rfl) hK hP hS hl.1 rfl rfl (Nat.le_of_ble_eq_true rfl) dX2_goAlike_22 (fun H1 locs hk hS => ?_)
      have hP := ql_keep hP hk
      refine lv_icmp_eq (tgt := 30) hx hb dX2_goAlike_25 (by decide) (fun c4 => ?_) (fun c4 => ?_)
      · have hf := (if_pos c4).symm.trans hf
        refine lv_iinc (v := (x4 + 1)) (lv' := [(4, .int (x4 + 1)), (0, .ref h), (1, .ref (pad i1 100)), (2, .int x2), (3, .int x3)]) hx hb dX2_goAlike_30 hl (k := 4) rfl rfl (by decide) rfl (fun ls hl => ?_)
        refine lv_goto (tgt := 3) hx hb dX2_goAlike_33 (by decide) ?_
        exact ih _ _ _ _ gi1 hf _ _ _ hP hS (lv_sub hl [1, 2, 3, 4, 0] rfl)
      · have hf := (if_neg c4).symm.trans hf
        refine lv_iconst (v := 0) hx hb dX2_goAlike_28 (by decide) ?_
        exact ql_rzret C0 (Or.inl rfl) hf hS dX2_goAlike_29
set_option maxHeartbeats 4000000 in
set_option maxRecDepth 100000 in
theorem w_X2_goAlike_0 {p : Program} {l : Launch} {e : Env} {s : State} {m : MethodId} {args : Array Value} {below : List Frame} {meth : Method} {c : Code} {dC : Nat → ClassId} {dI : Nat → Nat → Nat} {A : Nat → Prop} {h : Nat} {ad : Nat → Nat} {cI : ClassId} {pad : Nat → Nat → Nat} {res : Int32} (C0 : ql_C p s m args meth c cX2_goAlike 5 (some .boolean) wsX2_goAlike RX2 (dC, dI) [(cI, .int)] A) (N : Nat) (P : Nat → ql_St) (z : ql_St) : ∀ (i1 : Nat) (x2 : Int32) (x3 : Int32), i1 < 5 → f_X2_goAlike_0 N P z i1 x2 x3 = some res → ∀ (H : Heap) (locs : List Loc) (ls : Array Slot), va_P (dC, dI) vwCl ((ql_gw h ad cI pad P) z) H → va_S A s.heap H locs → lv_has ls 5 [(0, .ref h), (1, .ref (pad i1 100)), (2, .int x2), (3, .int x3)] → W p l e rm_X2_goAlike s m args below meth c H locs 0 0 (ql_Qri below A args s res) (F0 m 0 ls []) := by
  have C0q := C0
  obtain ⟨hx, hb, hr, hml, hown, hts, hlocks, hK, hA⟩ := C0q
  intro i1 x2 x3 gi1 hf H locs ls hP hS hl
  unfold f_X2_goAlike_0 at hf
  refine lv_iconst (v := 0) hx hb dX2_goAlike_0 (by decide) ?_
  refine lv_istore (lv' := [(4, .int 0), (0, .ref h), (1, .ref (pad i1 100)), (2, .int x2), (3, .int x3)]) hx hb dX2_goAlike_1 hl (by decide) rfl (fun ls hl => ?_)
  exact w_X2_goAlike_3 C0 N P z N _ _ _ _ gi1 hf _ _ _ hP hS (lv_sub hl [1, 2, 3, 4, 0] rfl)
set_option maxRecDepth 100000 in
theorem c_X2_goAlike (l : Launch) (dC : Nat → ClassId) (dI : Nat → Nat → Nat) (h : Nat) (ad : Nat → Nat) (cI : ClassId) (pad : Nat → Nat → Nat) (N : Nat) (P : Nat → ql_St) (z : ql_St) (i1 : Nat) (x2 : Int32) (x3 : Int32) (gi1 : i1 < 5) (res : Int32) (hf : f_X2_goAlike N P z i1 x2 x3 = some res) : ql_Ri l yX2_goAlike wsX2_goAlike rm_X2_goAlike (dC, dI) [(cI, .int)] ((ql_gw h ad cI pad P) z) [.ref h, .ref (pad i1 100), .int x2, .int x3] res :=
  ql_start_ri (by decide) rfl (Nat.le_of_ble_eq_true rfl) (fun p e s m below meth c A ls C0 hl hP hS => w_X2_goAlike_0 C0 N P z i1 x2 x3 gi1 hf s.heap [] ls hP hS (lv_sub (show lv_has ls 5 [(0, .ref h), (1, .ref (pad i1 100)), (2, .int x2), (3, .int x3)] from hl) [0, 1, 2, 3] rfl))
/-! ===== TestedLoops$Groups.firstLike(LTestedLoops$Plan;I)I ===== -/
abbrev rm_X2_firstLike : Room := { frames := 4, cells := 0, slots := 0, locals := 92 }
theorem iw_X2_firstLike_X6 : ∀ w ∈ wsX60, w ∈ wsX2_firstLike := fun w h => List.mem_cons_of_mem _ (List.mem_append_left _ (List.mem_append_right _ h))
theorem iw_X2_firstLike_X2 : ∀ w ∈ wsX20, w ∈ wsX2_firstLike := fun w h => List.mem_cons_of_mem _ (List.mem_append_right _ h)
theorem qv_X2_firstLike : yX2_firstLike.cls = RX2 ∧ yX2_firstLike.cls ≠ "java/lang/invoke/MethodHandle" ∧ yX2_firstLike.cls ≠ "java/lang/invoke/VarHandle" ∧ (parseMethodDescriptor yX2_firstLike.desc).map (fun d => d.parameters.length) = some 2 := by decide +kernel
def f_X2_firstLike_27 (N : Nat) (P : Nat → ql_St) (z : ql_St) (k2 : Nat → Int32 → Int32 → Option (Int32)) (i1 : Nat) (x2 : Int32) (x3 : Int32) : Option (Int32) := k2 i1 x2 (x3 + 1)
def f_X2_firstLike_2 (N : Nat) (P : Nat → ql_St) (z : ql_St) : Nat → Nat → Int32 → Int32 → Option (Int32)
  | 0, _, _, _ => none
  | n + 1, i1, x2, x3 => if x2 ≤ x3 then some x2 else (f_X6_isLive N (P i1) x3).bind fun u2 => if u2 = 0 then f_X2_firstLike_27 N P z (f_X2_firstLike_2 N P z n) i1 x2 x3 else (f_X2_goAlike N P z i1 x3 x2).bind fun u4 => if u4 = 0 then f_X2_firstLike_27 N P z (f_X2_firstLike_2 N P z n) i1 x2 x3 else some x3
def f_X2_firstLike_0 (N : Nat) (P : Nat → ql_St) (z : ql_St) (i1 : Nat) (x2 : Int32) : Option (Int32) := f_X2_firstLike_2 N P z N i1 x2 0
def f_X2_firstLike (N : Nat) (P : Nat → ql_St) (z : ql_St) (i1 : Nat) (x2 : Int32) : Option (Int32) := f_X2_firstLike_0 N P z i1 x2
set_option maxHeartbeats 4000000 in
set_option maxRecDepth 100000 in
theorem w_X2_firstLike_27 {p : Program} {l : Launch} {e : Env} {s : State} {m : MethodId} {args : Array Value} {below : List Frame} {meth : Method} {c : Code} {dC : Nat → ClassId} {dI : Nat → Nat → Nat} {A : Nat → Prop} {h : Nat} {ad : Nat → Nat} {cI : ClassId} {pad : Nat → Nat → Nat} {res : Int32} (C0 : ql_C p s m args meth c cX2_firstLike 4 (some .int) wsX2_firstLike RX2 (dC, dI) [(cI, .int)] A) (N : Nat) (P : Nat → ql_St) (z : ql_St) (k2 : Nat → Int32 → Int32 → Option (Int32)) (hk2 : ∀ (i1 : Nat) (x2 : Int32) (x3 : Int32), i1 < 5 → k2 i1 x2 x3 = some res → ∀ (H : Heap) (locs : List Loc) (ls : Array Slot), va_P (dC, dI) vwCl ((ql_gw h ad cI pad P) z) H → va_S A s.heap H locs → lv_has ls 4 [(0, .ref h), (1, .ref (pad i1 100)), (2, .int x2), (3, .int x3)] → W p l e rm_X2_firstLike s m args below meth c H locs 0 0 (ql_Qri below A args s res) (F0 m 2 ls [])) : ∀ (i1 : Nat) (x2 : Int32) (x3 : Int32), i1 < 5 → f_X2_firstLike_27 N P z k2 i1 x2 x3 = some res → ∀ (H : Heap) (locs : List Loc) (ls : Array Slot), va_P (dC, dI) vwCl ((ql_gw h ad cI pad P) z) H → va_S A s.heap H locs → lv_has ls 4 [(0, .ref h), (1, .ref (pad i1 100)), (2, .int x2), (3, .int x3)] → W p l e rm_X2_firstLike s m args below meth c H locs 0 0 (ql_Qri below A args s res) (F0 m 27 ls []) := by
  have C0q := C0
  obtain ⟨hx, hb, hr, hml, hown, hts, hlocks, hK, hA⟩ := C0q
  intro i1 x2 x3 gi1 hf H locs ls hP hS hl
  unfold f_X2_firstLike_27 at hf
  refine lv_iinc (v := (x3 + 1)) (lv' := [(3, .int (x3 + 1)), (0, .ref h), (1, .ref (pad i1 100)), (2, .int x2)]) hx hb dX2_firstLike_27 hl (k := 3) rfl rfl (by decide) rfl (fun ls hl => ?_)
  refine lv_goto (tgt := 2) hx hb dX2_firstLike_30 (by decide) ?_
  exact hk2 _ _ _ gi1 hf _ _ _ hP hS (lv_sub hl [1, 2, 3, 0] rfl)
set_option maxHeartbeats 4000000 in
set_option maxRecDepth 100000 in
theorem w_X2_firstLike_2 {p : Program} {l : Launch} {e : Env} {s : State} {m : MethodId} {args : Array Value} {below : List Frame} {meth : Method} {c : Code} {dC : Nat → ClassId} {dI : Nat → Nat → Nat} {A : Nat → Prop} {h : Nat} {ad : Nat → Nat} {cI : ClassId} {pad : Nat → Nat → Nat} {res : Int32} (C0 : ql_C p s m args meth c cX2_firstLike 4 (some .int) wsX2_firstLike RX2 (dC, dI) [(cI, .int)] A) (N : Nat) (P : Nat → ql_St) (z : ql_St) : ∀ (n : Nat), ∀ (i1 : Nat) (x2 : Int32) (x3 : Int32), i1 < 5 → f_X2_firstLike_2 N P z n i1 x2 x3 = some res → ∀ (H : Heap) (locs : List Loc) (ls : Array Slot), va_P (dC, dI) vwCl ((ql_gw h ad cI pad P) z) H → va_S A s.heap H locs → lv_has ls 4 [(0, .ref h), (1, .ref (pad i1 100)), (2, .int x2), (3, .int x3)] → W p l e rm_X2_firstLike s m args below meth c H locs 0 0 (ql_Qri below A args s res) (F0 m 2 ls []) := by
  have C0q := C0
  obtain ⟨hx, hb, hr, hml, hown, hts, hlocks, hK, hA⟩ := C0q
  intro n
  induction n with
  | zero =>
    intro i1 x2 x3 gi1 hf
    rw [f_X2_firstLike_2] at hf
    cases hf
  | succ n ih =>
    intro i1 x2 x3 gi1 hf H locs ls hP hS hl
    rw [f_X2_firstLike_2] at hf
    refine lv_iload_n hx hb dX2_firstLike_2 rfl (lv_at hl 3 rfl) ?_
    refine lv_iload_n hx hb dX2_firstLike_3 rfl (lv_at hl 2 rfl) ?_
    refine lv_icmp_ge (tgt := 33) hx hb dX2_firstLike_4 (by decide) (fun c1 => ?_) (fun c1 => ?_)
    · have hf := (if_pos c1).symm.trans hf
      refine lv_iload_n hx hb dX2_firstLike_33 rfl (lv_at hl 2 rfl) ?_
      exact ql_riret C0 hf hS dX2_firstLike_34
    · have hf := (if_neg c1).symm.trans hf
      refine lv_aload_n hx hb dX2_firstLike_7 rfl (lv_at hl 1 rfl) ?_
      refine lv_iload_n hx hb dX2_firstLike_8 rfl (lv_at hl 3 rfl) ?_
      obtain ⟨u2, hu2, hf⟩ := ql_bd hf
      refine ql_callRVi (As := [.int x3]) (rest := []) C0 (c_X6_isLive l dC dI (pad i1 100) (pad i1) cI N (P i1) x3 u2 hu2) (cwV 1 hts gX2_firstLike_X6_isLive rfl rfl rfl qv_X6_isLive ⟨Nat.le_of_ble_eq_true rfl, Nat.le_of_ble_eq_true rfl⟩) (va_recv hK.1 (ql_pl 3 hP rfl gi1) (ci := 6) (q0 := 0) rfl rfl) (hK.sub [0] rfl) (ql_pl 3 hP rfl gi1) hS hl.1 rfl rfl (Nat.le_of_ble_eq_true rfl) dX2_firstLike_9 (fun H1 locs hk hS => ?_)
      have hP := ql_keep hP hk
      refine lv_if_eq (tgt := 27) hx hb dX2_firstLike_12 (by decide) (fun c3 => ?_) (fun c3 => ?_)
      · have hf := (if_pos c3).symm.trans hf
        exact w_X2_firstLike_27 C0 N P z (f_X2_firstLike_2 N P z n) ih _ _ _ gi1 hf _ _ _ hP hS (lv_sub hl [0, 1, 2, 3] rfl)
      · have hf := (if_neg c3).symm.trans hf
        refine lv_aload_n hx hb dX2_firstLike_15 rfl (lv_at hl 0 rfl) ?_
        refine lv_aload_n hx hb dX2_firstLike_16 rfl (lv_at hl 1 rfl) ?_
        refine lv_iload_n hx hb dX2_firstLike_17 rfl (lv_at hl 3 rfl) ?_
        refine lv_iload_n hx hb dX2_firstLike_18 rfl (lv_at hl 2 rfl) ?_
        obtain ⟨u4, hu4, hf⟩ := ql_bd hf
        refine ql_callRVi (As := [.ref (pad i1 100), .int x3, .int x2]) (rest := []) C0 (c_X2_goAlike l dC dI h ad cI pad N P z i1 x3 x2 gi1 u4 hu4) (cwV 3 hts gX2_firstLike_X2_goAlike rfl rfl rfl qv_X2_goAlike ⟨Nat.le_of_ble_eq_true rfl, Nat.le_of_ble_eq_true rfl⟩) (va_recv hK.1 hP (ci := 2) (q0 := 0) rfl rfl) hK hP hS hl.1 rfl rfl (Nat.le_of_ble_eq_true rfl) dX2_firstLike_19 (fun H1 locs hk hS => ?_)
        have hP := ql_keep hP hk
        refine lv_if_eq (tgt := 27) hx hb dX2_firstLike_22 (by decide) (fun c5 => ?_) (fun c5 => ?_)
        · have hf := (if_pos c5).symm.trans hf
          exact w_X2_firstLike_27 C0 N P z (f_X2_firstLike_2 N P z n) ih _ _ _ gi1 hf _ _ _ hP hS (lv_sub hl [0, 1, 2, 3] rfl)
        · have hf := (if_neg c5).symm.trans hf
          refine lv_iload_n hx hb dX2_firstLike_25 rfl (lv_at hl 3 rfl) ?_
          exact ql_riret C0 hf hS dX2_firstLike_26
set_option maxHeartbeats 4000000 in
set_option maxRecDepth 100000 in
theorem w_X2_firstLike_0 {p : Program} {l : Launch} {e : Env} {s : State} {m : MethodId} {args : Array Value} {below : List Frame} {meth : Method} {c : Code} {dC : Nat → ClassId} {dI : Nat → Nat → Nat} {A : Nat → Prop} {h : Nat} {ad : Nat → Nat} {cI : ClassId} {pad : Nat → Nat → Nat} {res : Int32} (C0 : ql_C p s m args meth c cX2_firstLike 4 (some .int) wsX2_firstLike RX2 (dC, dI) [(cI, .int)] A) (N : Nat) (P : Nat → ql_St) (z : ql_St) : ∀ (i1 : Nat) (x2 : Int32), i1 < 5 → f_X2_firstLike_0 N P z i1 x2 = some res → ∀ (H : Heap) (locs : List Loc) (ls : Array Slot), va_P (dC, dI) vwCl ((ql_gw h ad cI pad P) z) H → va_S A s.heap H locs → lv_has ls 4 [(0, .ref h), (1, .ref (pad i1 100)), (2, .int x2)] → W p l e rm_X2_firstLike s m args below meth c H locs 0 0 (ql_Qri below A args s res) (F0 m 0 ls []) := by
  have C0q := C0
  obtain ⟨hx, hb, hr, hml, hown, hts, hlocks, hK, hA⟩ := C0q
  intro i1 x2 gi1 hf H locs ls hP hS hl
  unfold f_X2_firstLike_0 at hf
  refine lv_iconst (v := 0) hx hb dX2_firstLike_0 (by decide) ?_
  refine lv_istore_n (lv' := [(3, .int 0), (0, .ref h), (1, .ref (pad i1 100)), (2, .int x2)]) hx hb dX2_firstLike_1 rfl hl (by decide) rfl (fun ls hl => ?_)
  exact w_X2_firstLike_2 C0 N P z N _ _ _ gi1 hf _ _ _ hP hS (lv_sub hl [1, 2, 3, 0] rfl)
set_option maxRecDepth 100000 in
theorem c_X2_firstLike (l : Launch) (dC : Nat → ClassId) (dI : Nat → Nat → Nat) (h : Nat) (ad : Nat → Nat) (cI : ClassId) (pad : Nat → Nat → Nat) (N : Nat) (P : Nat → ql_St) (z : ql_St) (i1 : Nat) (x2 : Int32) (gi1 : i1 < 5) (res : Int32) (hf : f_X2_firstLike N P z i1 x2 = some res) : ql_Ri l yX2_firstLike wsX2_firstLike rm_X2_firstLike (dC, dI) [(cI, .int)] ((ql_gw h ad cI pad P) z) [.ref h, .ref (pad i1 100), .int x2] res :=
  ql_start_ri (by decide) rfl (Nat.le_of_ble_eq_true rfl) (fun p e s m below meth c A ls C0 hl hP hS => w_X2_firstLike_0 C0 N P z i1 x2 gi1 hf s.heap [] ls hP hS (lv_sub (show lv_has ls 4 [(0, .ref h), (1, .ref (pad i1 100)), (2, .int x2)] from hl) [0, 1, 2] rfl))
/-! ===== TestedLoops$Groups.refine(LTestedLoops$Plan;)Z ===== -/
abbrev rm_X2_refine : Room := { frames := 5, cells := 0, slots := 0, locals := 115 }
theorem iw_X2_refine_X6 : ∀ w ∈ wsX60, w ∈ wsX2_refine := fun w h => List.mem_cons_of_mem _ (List.mem_append_left _ (List.mem_append_right _ h))
theorem iw_X2_refine_X2 : ∀ w ∈ wsX20, w ∈ wsX2_refine := fun w h => List.mem_cons_of_mem _ (List.mem_append_right _ h)
theorem qv_X2_refine : yX2_refine.cls = RX2 ∧ yX2_refine.cls ≠ "java/lang/invoke/MethodHandle" ∧ yX2_refine.cls ≠ "java/lang/invoke/VarHandle" ∧ (parseMethodDescriptor yX2_refine.desc).map (fun d => d.parameters.length) = some 1 := by decide +kernel
def f_X2_refine_45 (N : Nat) (P : Nat → ql_St) (k4 : ql_St → Nat → Int32 → Int32 → Option (Int32 × ql_St)) (z : ql_St) (i1 : Nat) (x3 : Int32) (y0 : Int32) (y1 : Int32) : Option (Int32 × ql_St) := k4 z i1 (y1 ||| y0) (x3 + 1)
def f_X2_refine_4 (N : Nat) (P : Nat → ql_St) : Nat → ql_St → Nat → Int32 → Int32 → Option (Int32 × ql_St)
  | 0, _, _, _, _ => none
  | n + 1, z, i1, x2, x3 => if (P i1 6 0) < x3 then if ql_ig ((P i1 6 0) + 1) 17 = true then if ql_bz x2 = true then some (x2, (ql_up z 0 (va_cpy (z 1) (z 0) 0 0 ((P i1 6 0) + 1).toNatClampNeg))) else none else none else (f_X2_firstLike N P z i1 x3).bind fun u2 => if ql_ib x3 17 = true then if ql_ib x3 17 = true then if ql_ib x3 17 = true then if ((upd (z 1) x3.toNatClampNeg u2) x3.toNatClampNeg) = ((z 0) x3.toNatClampNeg) then f_X2_refine_45 N P (f_X2_refine_4 N P n) (ql_up z 1 (upd (z 1) x3.toNatClampNeg u2)) i1 x3 0 x2 else f_X2_refine_45 N P (f_X2_refine_4 N P n) (ql_up z 1 (upd (z 1) x3.toNatClampNeg u2)) i1 x3 1 x2 else none else none else none
def f_X2_refine_0 (N : Nat) (P : Nat → ql_St) (z : ql_St) (i1 : Nat) : Option (Int32 × ql_St) := f_X2_refine_4 N P N z i1 0 0
def f_X2_refine (N : Nat) (P : Nat → ql_St) (z : ql_St) (i1 : Nat) : Option (Int32 × ql_St) := f_X2_refine_0 N P z i1
set_option maxHeartbeats 4000000 in
set_option maxRecDepth 100000 in
theorem w_X2_refine_45 {p : Program} {l : Launch} {e : Env} {s : State} {m : MethodId} {args : Array Value} {below : List Frame} {meth : Method} {c : Code} {dC : Nat → ClassId} {dI : Nat → Nat → Nat} {A : Nat → Prop} {h : Nat} {ad : Nat → Nat} {cI : ClassId} {pad : Nat → Nat → Nat} {res : Int32 × ql_St} (C0 : ql_C p s m args meth c cX2_refine 4 (some .boolean) wsX2_refine RX2 (dC, dI) [(cI, .int)] A) (N : Nat) (P : Nat → ql_St) (k4 : ql_St → Nat → Int32 → Int32 → Option (Int32 × ql_St)) (hk4 : ∀ (z : ql_St) (i1 : Nat) (x2 : Int32) (x3 : Int32), i1 < 5 → k4 z i1 x2 x3 = some res → ∀ (H : Heap) (locs : List Loc) (ls : Array Slot), va_P (dC, dI) vwCl ((ql_gw h ad cI pad P) z) H → va_D A ((ql_gw h ad cI pad P) z) → va_S A s.heap H locs → lv_has ls 4 [(0, .ref h), (1, .ref (pad i1 100)), (2, .int x2), (3, .int x3)] → W p l e rm_X2_refine s m args below meth c H locs 0 0 (ql_Qi below (dC, dI) (ql_gw h ad cI pad P) A args s res) (F0 m 4 ls [])) : ∀ (z : ql_St) (i1 : Nat) (x3 : Int32) (y0 : Int32) (y1 : Int32), i1 < 5 → f_X2_refine_45 N P k4 z i1 x3 y0 y1 = some res → ∀ (H : Heap) (locs : List Loc) (ls : Array Slot), va_P (dC, dI) vwCl ((ql_gw h ad cI pad P) z) H → va_D A ((ql_gw h ad cI pad P) z) → va_S A s.heap H locs → lv_has ls 4 [(0, .ref h), (1, .ref (pad i1 100)), (3, .int x3)] → W p l e rm_X2_refine s m args below meth c H locs 0 0 (ql_Qi below (dC, dI) (ql_gw h ad cI pad P) A args s res) (F0 m 45 ls [.int y0, .int y1]) := by
  have C0q := C0
  obtain ⟨hx, hb, hr, hml, hown, hts, hlocks, hK, hA⟩ := C0q
  intro z i1 x3 y0 y1 gi1 hf H locs ls hP hD hS hl
  unfold f_X2_refine_45 at hf
  refine lv_ior hx hb dX2_refine_45 ?_
  refine lv_istore_n (lv' := [(2, .int (y1 ||| y0)), (0, .ref h), (1, .ref (pad i1 100)), (3, .int x3)]) hx hb dX2_refine_46 rfl hl (by decide) rfl (fun ls hl => ?_)
  refine lv_iinc (v := (x3 + 1)) (lv' := [(3, .int (x3 + 1)), (2, .int (y1 ||| y0)), (0, .ref h), (1, .ref (pad i1 100))]) hx hb dX2_refine_47 hl (k := 3) rfl rfl (by decide) rfl (fun ls hl => ?_)
  refine lv_goto (tgt := 4) hx hb dX2_refine_50 (by decide) ?_
  exact hk4 _ _ _ _ gi1 hf _ _ _ hP hD hS (lv_sub hl [2, 3, 1, 0] rfl)
set_option maxHeartbeats 4000000 in
set_option maxRecDepth 100000 in
theorem w_X2_refine_4 {p : Program} {l : Launch} {e : Env} {s : State} {m : MethodId} {args : Array Value} {below : List Frame} {meth : Method} {c : Code} {dC : Nat → ClassId} {dI : Nat → Nat → Nat} {A : Nat → Prop} {h : Nat} {ad : Nat → Nat} {cI : ClassId} {pad : Nat → Nat → Nat} {res : Int32 × ql_St} (C0 : ql_C p s m args meth c cX2_refine 4 (some .boolean) wsX2_refine RX2 (dC, dI) [(cI, .int)] A) (N : Nat) (P : Nat → ql_St) : ∀ (n : Nat), ∀ (z : ql_St) (i1 : Nat) (x2 : Int32) (x3 : Int32), i1 < 5 → f_X2_refine_4 N P n z i1 x2 x3 = some res → ∀ (H : Heap) (locs : List Loc) (ls : Array Slot), va_P (dC, dI) vwCl ((ql_gw h ad cI pad P) z) H → va_D A ((ql_gw h ad cI pad P) z) → va_S A s.heap H locs → lv_has ls 4 [(0, .ref h), (1, .ref (pad i1 100)), (2, .int x2), (3, .int x3)] → W p l e rm_X2_refine s m args below meth c H locs 0 0 (ql_Qi below (dC, dI) (ql_gw h ad cI pad P) A args s res) (F0 m 4 ls []) := by
  have C0q := C0
  obtain ⟨hx, hb, hr, hml, hown, hts, hlocks, hK, hA⟩ := C0q
  have fl18 := hts (Cond.fieldLink RX2 18 "TestedLoops$Plan" "places" "I") (by decide +kernel)
  have fl15 := hts (Cond.fieldLink RX2 15 "TestedLoops$Groups" "finer" "[I") (by decide +kernel)
  have fl9 := hts (Cond.fieldLink RX2 9 "TestedLoops$Groups" "first" "[I") (by decide +kernel)
  intro n
  induction n with
  | zero =>
    intro z i1 x2 x3 gi1 hf
    rw [f_X2_refine_4] at hf
    cases hf
  | succ n ih =>
    intro z i1 x2 x3 gi1 hf H locs ls hP hD hS hl
    rw [f_X2_refine_4] at hf
    refine lv_iload_n hx hb dX2_refine_4 rfl (lv_at hl 3 rfl) ?_
    refine lv_aload_n hx hb dX2_refine_5 rfl (lv_at hl 1 rfl) ?_
    refine va_get (D := (dC, dI)) (ci := 6) (v := .int (P i1 6 0)) (C := RX6) (T := TX6) (N := 10) hx hb hts iw_X2_refine_X6 hown hK.1 (ql_pl 3 hP rfl gi1) 0 rfl rfl 6 (by decide) fl18 (fun _ h9 => h9) rfl dX2_refine_6 ?_
    refine lv_icmp_gt (tgt := 53) hx hb dX2_refine_9 (by decide) (fun c1 => ?_) (fun c1 => ?_)
    · have hf := (if_pos c1).symm.trans hf
      refine lv_aload_n hx hb dX2_refine_53 rfl (lv_at hl 0 rfl) ?_
      refine va_get (D := (dC, dI)) (ci := 2) (v := .ref (ad 1)) (C := RX2) (T := TX2) (N := 2) hx hb hts iw_X2_refine_X2 hown hK.1 hP 0 rfl rfl 1 (by decide) fl15 (fun _ h9 => h9) rfl dX2_refine_54 ?_
      refine lv_iconst (v := 0) hx hb dX2_refine_57 (by decide) ?_
      refine lv_aload_n hx hb dX2_refine_58 rfl (lv_at hl 0 rfl) ?_
      refine va_get (D := (dC, dI)) (ci := 2) (v := .ref (ad 0)) (C := RX2) (T := TX2) (N := 2) hx hb hts iw_X2_refine_X2 hown hK.1 hP 0 rfl rfl 0 (by decide) fl9 (fun _ h9 => h9) rfl dX2_refine_59 ?_
      refine lv_iconst (v := 0) hx hb dX2_refine_62 (by decide) ?_
      refine lv_aload_n hx hb dX2_refine_63 rfl (lv_at hl 1 rfl) ?_
      refine va_get (D := (dC, dI)) (ci := 6) (v := .int (P i1 6 0)) (C := RX6) (T := TX6) (N := 10) hx hb hts iw_X2_refine_X6 hown hK.1 (ql_pl 3 hP rfl gi1) 0 rfl rfl 6 (by decide) fl18 (fun _ h9 => h9) rfl dX2_refine_64 ?_
      refine lv_iconst (v := 1) hx hb dX2_refine_67 (by decide) ?_
      refine lv_iadd hx hb dX2_refine_68 ?_
      have g0 := ql_ig0 (ql_gt hf)
      have hf := ql_gx hf
      refine va_copyi (f := (z 1)) (g := (z 0)) hx hb (hml.trans hl.1.symm) hown (hts (.methodLink RX2 36 arraycopyName) (by decide +kernel)) (hts (.native arraycopyName) (by decide +kernel)) (hts (.static arraycopyName) (by decide +kernel)) (hts (.initialized "java/lang/System") (by decide +kernel)) hK.1 hP hD hS 2 1 0 0 rfl rfl rfl rfl rfl (by decide) (by decide) g0.1 (ql_ig1 g0.2 (by decide) (by decide)) (ql_ig1 g0.2 (by decide) (by decide)) (fun _ _ => rfl) (Nat.le_of_ble_eq_true rfl) (by decide) dX2_refine_69 (fun H locs hP hD hS => ?_)
      refine lv_iload_n hx hb dX2_refine_72 rfl (lv_at hl 2 rfl) ?_
      exact ql_zret C0 (ql_bzo (ql_gt hf)) (ql_gx hf) hP hD hS dX2_refine_73
    · have hf := (if_neg c1).symm.trans hf
      refine lv_aload_n hx hb dX2_refine_12 rfl (lv_at hl 0 rfl) ?_
      refine va_get (D := (dC, dI)) (ci := 2) (v := .ref (ad 1)) (C := RX2) (T := TX2) (N := 2) hx hb hts iw_X2_refine_X2 hown hK.1 hP 0 rfl rfl 1 (by decide) fl15 (fun _ h9 => h9) rfl dX2_refine_13 ?_
      refine lv_iload_n hx hb dX2_refine_16 rfl (lv_at hl 3 rfl) ?_
      refine lv_aload_n hx hb dX2_refine_17 rfl (lv_at hl 0 rfl) ?_
      refine lv_aload_n hx hb dX2_refine_18 rfl (lv_at hl 1 rfl) ?_
      refine lv_iload_n hx hb dX2_refine_19 rfl (lv_at hl 3 rfl) ?_
      obtain ⟨u2, hu2, hf⟩ := ql_bd hf
      refine ql_callRVi (As := [.ref (pad i1 100), .int x3]) (rest := [.int x3, .ref (ad 1)]) C0 (c_X2_firstLike l dC dI h ad cI pad N P z i1 x3 gi1 u2 hu2) (cwV 2 hts gX2_refine_X2_firstLike rfl rfl rfl qv_X2_firstLike ⟨Nat.le_of_ble_eq_true rfl, Nat.le_of_ble_eq_true rfl⟩) (va_recv hK.1 hP (ci := 2) (q0 := 0) rfl rfl) hK hP hS hl.1 rfl rfl (Nat.le_of_ble_eq_true rfl) dX2_refine_20 (fun H1 locs hk hS => ?_)
      have hP := ql_keep hP hk
      have g0 := ql_in (ql_gt hf)
      have hf := ql_gx hf
      refine va_iast (f := (z 1)) hx hb hK.1 hP hD hS 2 0 rfl rfl g0 dX2_refine_23 (fun H locs hP hD hS => ?_)
      refine lv_iload_n hx hb dX2_refine_24 rfl (lv_at hl 2 rfl) ?_
      refine lv_aload_n hx hb dX2_refine_25 rfl (lv_at hl 0 rfl) ?_
      refine va_get (D := (dC, dI)) (ci := 2) (v := .ref (ad 1)) (C := RX2) (T := TX2) (N := 2) hx hb hts iw_X2_refine_X2 hown hK.1 hP 0 rfl rfl 1 (by decide) fl15 (fun _ h9 => h9) rfl dX2_refine_26 ?_
      refine lv_iload_n hx hb dX2_refine_29 rfl (lv_at hl 3 rfl) ?_
      have g0 := ql_in (ql_gt hf)
      have hf := ql_gx hf
      refine va_iald (f := (upd (z 1) x3.toNatClampNeg u2)) hx hb hK.1 hP 2 0 rfl rfl g0 dX2_refine_30 ?_
      refine lv_aload_n hx hb dX2_refine_31 rfl (lv_at hl 0 rfl) ?_
      refine va_get (D := (dC, dI)) (ci := 2) (v := .ref (ad 0)) (C := RX2) (T := TX2) (N := 2) hx hb hts iw_X2_refine_X2 hown hK.1 hP 0 rfl rfl 0 (by decide) fl9 (fun _ h9 => h9) rfl dX2_refine_32 ?_
      refine lv_iload_n hx hb dX2_refine_35 rfl (lv_at hl 3 rfl) ?_
      have g0 := ql_in (ql_gt hf)
      have hf := ql_gx hf
      refine va_iald (f := (z 0)) hx hb hK.1 hP 1 0 rfl rfl g0 dX2_refine_36 ?_
      refine lv_icmp_eq (tgt := 44) hx hb dX2_refine_37 (by decide) (fun c3 => ?_) (fun c3 => ?_)
      · have hf := (if_pos c3).symm.trans hf
        refine lv_iconst (v := 0) hx hb dX2_refine_44 (by decide) ?_
        exact w_X2_refine_45 C0 N P (f_X2_refine_4 N P n) ih _ _ _ _ _ gi1 hf _ _ _ hP hD hS (lv_sub hl [0, 1, 3] rfl)
      · have hf := (if_neg c3).symm.trans hf
        refine lv_iconst (v := 1) hx hb dX2_refine_40 (by decide) ?_
        refine lv_goto (tgt := 45) hx hb dX2_refine_41 (by decide) ?_
        exact w_X2_refine_45 C0 N P (f_X2_refine_4 N P n) ih _ _ _ _ _ gi1 hf _ _ _ hP hD hS (lv_sub hl [0, 1, 3] rfl)
set_option maxHeartbeats 4000000 in
set_option maxRecDepth 100000 in
theorem w_X2_refine_0 {p : Program} {l : Launch} {e : Env} {s : State} {m : MethodId} {args : Array Value} {below : List Frame} {meth : Method} {c : Code} {dC : Nat → ClassId} {dI : Nat → Nat → Nat} {A : Nat → Prop} {h : Nat} {ad : Nat → Nat} {cI : ClassId} {pad : Nat → Nat → Nat} {res : Int32 × ql_St} (C0 : ql_C p s m args meth c cX2_refine 4 (some .boolean) wsX2_refine RX2 (dC, dI) [(cI, .int)] A) (N : Nat) (P : Nat → ql_St) : ∀ (z : ql_St) (i1 : Nat), i1 < 5 → f_X2_refine_0 N P z i1 = some res → ∀ (H : Heap) (locs : List Loc) (ls : Array Slot), va_P (dC, dI) vwCl ((ql_gw h ad cI pad P) z) H → va_D A ((ql_gw h ad cI pad P) z) → va_S A s.heap H locs → lv_has ls 4 [(0, .ref h), (1, .ref (pad i1 100))] → W p l e rm_X2_refine s m args below meth c H locs 0 0 (ql_Qi below (dC, dI) (ql_gw h ad cI pad P) A args s res) (F0 m 0 ls []) := by
  have C0q := C0
  obtain ⟨hx, hb, hr, hml, hown, hts, hlocks, hK, hA⟩ := C0q
  intro z i1 gi1 hf H locs ls hP hD hS hl
  unfold f_X2_refine_0 at hf
  refine lv_iconst (v := 0) hx hb dX2_refine_0 (by decide) ?_
  refine lv_istore_n (lv' := [(2, .int 0), (0, .ref h), (1, .ref (pad i1 100))]) hx hb dX2_refine_1 rfl hl (by decide) rfl (fun ls hl => ?_)
  refine lv_iconst (v := 0) hx hb dX2_refine_2 (by decide) ?_
  refine lv_istore_n (lv' := [(3, .int 0), (2, .int 0), (0, .ref h), (1, .ref (pad i1 100))]) hx hb dX2_refine_3 rfl hl (by decide) rfl (fun ls hl => ?_)
  exact w_X2_refine_4 C0 N P N _ _ _ _ gi1 hf _ _ _ hP hD hS (lv_sub hl [2, 3, 1, 0] rfl)
set_option maxRecDepth 100000 in
theorem c_X2_refine (l : Launch) (dC : Nat → ClassId) (dI : Nat → Nat → Nat) (h : Nat) (ad : Nat → Nat) (cI : ClassId) (pad : Nat → Nat → Nat) (N : Nat) (P : Nat → ql_St) (z : ql_St) (i1 : Nat) (gi1 : i1 < 5) (res : Int32 × ql_St) (hf : f_X2_refine N P z i1 = some res) : ql_Mi l yX2_refine wsX2_refine rm_X2_refine (dC, dI) [(cI, .int)] (ql_gw h ad cI pad P) [.ref h, .ref (pad i1 100)] z res :=
  ql_start_i (by decide) rfl (Nat.le_of_ble_eq_true rfl) (fun p e s m below meth c A ls C0 hl hP hD hS => w_X2_refine_0 C0 N P z i1 gi1 hf s.heap [] ls hP hD hS (lv_sub (show lv_has ls 4 [(0, .ref h), (1, .ref (pad i1 100))] from hl) [0, 1] rfl))
/-! ===== TestedLoops$Groups.howMany(LTestedLoops$Plan;)I ===== -/
abbrev rm_X2_howMany : Room := { frames := 6, cells := 0, slots := 0, locals := 138 }
theorem iw_X2_howMany_X6 : ∀ w ∈ wsX60, w ∈ wsX2_howMany := fun w h => List.mem_cons_of_mem _ (List.mem_append_left _ (List.mem_append_right _ h))
theorem iw_X2_howMany_X2 : ∀ w ∈ wsX20, w ∈ wsX2_howMany := fun w h => List.mem_cons_of_mem _ (List.mem_append_right _ h)
theorem qv_X2_howMany : yX2_howMany.cls = RX2 ∧ yX2_howMany.cls ≠ "java/lang/invoke/MethodHandle" ∧ yX2_howMany.cls ≠ "java/lang/invoke/VarHandle" ∧ (parseMethodDescriptor yX2_howMany.desc).map (fun d => d.parameters.length) = some 1 := by decide +kernel
def f_X2_howMany_84 (N : Nat) (P : Nat → ql_St) (k52 : ql_St → Nat → Int32 → Int32 → Option (Int32 × ql_St)) (z : ql_St) (i1 : Nat) (x3 : Int32) (y0 : Int32) (y1 : Int32) : Option (Int32 × ql_St) := k52 z i1 (y1 + y0) (x3 + 1)
def f_X2_howMany_83 (N : Nat) (P : Nat → ql_St) (k52 : ql_St → Nat → Int32 → Int32 → Option (Int32 × ql_St)) (z : ql_St) (i1 : Nat) (x3 : Int32) (y0 : Int32) : Option (Int32 × ql_St) := f_X2_howMany_84 N P k52 z i1 x3 0 y0
def f_X2_howMany_52 (N : Nat) (P : Nat → ql_St) : Nat → ql_St → Nat → Int32 → Int32 → Option (Int32 × ql_St)
  | 0, _, _, _, _ => none
  | n + 1, z, i1, x2, x3 => if (P i1 6 0) < x3 then some (x2, z) else (f_X6_isLive N (P i1) x3).bind fun u2 => if u2 = 0 then f_X2_howMany_83 N P (f_X2_howMany_52 N P n) z i1 x3 x2 else if ql_ib x3 17 = true then if ((z 0) x3.toNatClampNeg) = x3 then f_X2_howMany_84 N P (f_X2_howMany_52 N P n) z i1 x3 1 x2 else f_X2_howMany_83 N P (f_X2_howMany_52 N P n) z i1 x3 x2 else none
def f_X2_howMany_48 (N : Nat) (P : Nat → ql_St) (z : ql_St) (i1 : Nat) : Option (Int32 × ql_St) := f_X2_howMany_52 N P N z i1 0 0
def f_X2_howMany_25 (N : Nat) (P : Nat → ql_St) : Nat → ql_St → Nat → Int32 → Option (Int32 × ql_St)
  | 0, _, _, _ => none
  | n + 1, z, i1, x2 => if 16 < x2 then f_X2_howMany_48 N P z i1 else (f_X2_refine N P z i1).bind fun u6 => if u6.1 = 0 then f_X2_howMany_48 N P u6.2 i1 else f_X2_howMany_25 N P n u6.2 i1 (x2 + 1)
def f_X2_howMany_2 (N : Nat) (P : Nat → ql_St) : Nat → ql_St → Nat → Int32 → Option (Int32 × ql_St)
  | 0, _, _, _ => none
  | n + 1, z, i1, x2 => if (P i1 6 0) < x2 then f_X2_howMany_25 N P N z i1 0 else if ql_ib x2 17 = true then f_X2_howMany_2 N P n (ql_up z 0 (upd (z 0) x2.toNatClampNeg 0)) i1 (x2 + 1) else none
def f_X2_howMany_0 (N : Nat) (P : Nat → ql_St) (z : ql_St) (i1 : Nat) : Option (Int32 × ql_St) := f_X2_howMany_2 N P N z i1 0
def f_X2_howMany (N : Nat) (P : Nat → ql_St) (z : ql_St) (i1 : Nat) : Option (Int32 × ql_St) := f_X2_howMany_0 N P z i1
set_option maxHeartbeats 4000000 in
set_option maxRecDepth 100000 in
theorem w_X2_howMany_84 {p : Program} {l : Launch} {e : Env} {s : State} {m : MethodId} {args : Array Value} {below : List Frame} {meth : Method} {c : Code} {dC : Nat → ClassId} {dI : Nat → Nat → Nat} {A : Nat → Prop} {h : Nat} {ad : Nat → Nat} {cI : ClassId} {pad : Nat → Nat → Nat} {res : Int32 × ql_St} (C0 : ql_C p s m args meth c cX2_howMany 4 (some .int) wsX2_howMany RX2 (dC, dI) [(cI, .int)] A) (N : Nat) (P : Nat → ql_St) (k52 : ql_St → Nat → Int32 → Int32 → Option (Int32 × ql_St)) (hk52 : ∀ (z : ql_St) (i1 : Nat) (x2 : Int32) (x3 : Int32), i1 < 5 → k52 z i1 x2 x3 = some res → ∀ (H : Heap) (locs : List Loc) (ls : Array Slot), va_P (dC, dI) vwCl ((ql_gw h ad cI pad P) z) H → va_D A ((ql_gw h ad cI pad P) z) → va_S A s.heap H locs → lv_has ls 4 [(0, .ref h), (1, .ref (pad i1 100)), (2, .int x2), (3, .int x3)] → W p l e rm_X2_howMany s m args below meth c H locs 0 0 (ql_Qi below (dC, dI) (ql_gw h ad cI pad P) A args s res) (F0 m 52 ls [])) : ∀ (z : ql_St) (i1 : Nat) (x3 : Int32) (y0 : Int32) (y1 : Int32), i1 < 5 → f_X2_howMany_84 N P k52 z i1 x3 y0 y1 = some res → ∀ (H : Heap) (locs : List Loc) (ls : Array Slot), va_P (dC, dI) vwCl ((ql_gw h ad cI pad P) z) H → va_D A ((ql_gw h ad cI pad P) z) → va_S A s.heap H locs → lv_has ls 4 [(0, .ref h), (1, .ref (pad i1 100)), (3, .int x3)] → W p l e rm_X2_howMany s m args below meth c H locs 0 0 (ql_Qi below (dC, dI) (ql_gw h ad cI pad P) A args s res) (F0 m 84 ls [.int y0, .int y1]) := by
  have C0q := C0
  obtain ⟨hx, hb, hr, hml, hown, hts, hlocks, hK, hA⟩ := C0q
  intro z i1 x3 y0 y1 gi1 hf H locs ls hP hD hS hl
  unfold f_X2_howMany_84 at hf
  refine lv_iadd hx hb dX2_howMany_84 ?_
  refine lv_istore_n (lv' := [(2, .int (y1 + y0)), (0, .ref h), (1, .ref (pad i1 100)), (3, .int x3)]) hx hb dX2_howMany_85 rfl hl (by decide) rfl (fun ls hl => ?_)
  refine lv_iinc (v := (x3 + 1)) (lv' := [(3, .int (x3 + 1)), (2, .int (y1 + y0)), (0, .ref h), (1, .ref (pad i1 100))]) hx hb dX2_howMany_86 hl (k := 3) rfl rfl (by decide) rfl (fun ls hl => ?_)
  refine lv_goto (tgt := 52) hx hb dX2_howMany_89 (by decide) ?_
  exact hk52 _ _ _ _ gi1 hf _ _ _ hP hD hS (lv_sub hl [2, 3, 1, 0] rfl)
set_option maxHeartbeats 4000000 in
set_option maxRecDepth 100000 in
theorem w_X2_howMany_83 {p : Program} {l : Launch} {e : Env} {s : State} {m : MethodId} {args : Array Value} {below : List Frame} {meth : Method} {c : Code} {dC : Nat → ClassId} {dI : Nat → Nat → Nat} {A : Nat → Prop} {h : Nat} {ad : Nat → Nat} {cI : ClassId} {pad : Nat → Nat → Nat} {res : Int32 × ql_St} (C0 : ql_C p s m args meth c cX2_howMany 4 (some .int) wsX2_howMany RX2 (dC, dI) [(cI, .int)] A) (N : Nat) (P : Nat → ql_St) (k52 : ql_St → Nat → Int32 → Int32 → Option (Int32 × ql_St)) (hk52 : ∀ (z : ql_St) (i1 : Nat) (x2 : Int32) (x3 : Int32), i1 < 5 → k52 z i1 x2 x3 = some res → ∀ (H : Heap) (locs : List Loc) (ls : Array Slot), va_P (dC, dI) vwCl ((ql_gw h ad cI pad P) z) H → va_D A ((ql_gw h ad cI pad P) z) → va_S A s.heap H locs → lv_has ls 4 [(0, .ref h), (1, .ref (pad i1 100)), (2, .int x2), (3, .int x3)] → W p l e rm_X2_howMany s m args below meth c H locs 0 0 (ql_Qi below (dC, dI) (ql_gw h ad cI pad P) A args s res) (F0 m 52 ls [])) : ∀ (z : ql_St) (i1 : Nat) (x3 : Int32) (y0 : Int32), i1 < 5 → f_X2_howMany_83 N P k52 z i1 x3 y0 = some res → ∀ (H : Heap) (locs : List Loc) (ls : Array Slot), va_P (dC, dI) vwCl ((ql_gw h ad cI pad P) z) H → va_D A ((ql_gw h ad cI pad P) z) → va_S A s.heap H locs → lv_has ls 4 [(0, .ref h), (1, .ref (pad i1 100)), (3, .int x3)] → W p l e rm_X2_howMany s m args below meth c H locs 0 0 (ql_Qi below (dC, dI) (ql_gw h ad cI pad P) A args s res) (F0 m 83 ls [.int y0]) := by
  have C0q := C0
  obtain ⟨hx, hb, hr, hml, hown, hts, hlocks, hK, hA⟩ := C0q
  intro z i1 x3 y0 gi1 hf H locs ls hP hD hS hl
  unfold f_X2_howMany_83 at hf
  refine lv_iconst (v := 0) hx hb dX2_howMany_83 (by decide) ?_
  exact w_X2_howMany_84 C0 N P k52 hk52 _ _ _ _ _ gi1 hf _ _ _ hP hD hS (lv_sub hl [0, 1, 2] rfl)
set_option maxHeartbeats 4000000 in
set_option maxRecDepth 100000 in
theorem w_X2_howMany_52 {p : Program} {l : Launch} {e : Env} {s : State} {m : MethodId} {args : Array Value} {below : List Frame} {meth : Method} {c : Code} {dC : Nat → ClassId} {dI : Nat → Nat → Nat} {A : Nat → Prop} {h : Nat} {ad : Nat → Nat} {cI : ClassId} {pad : Nat → Nat → Nat} {res : Int32 × ql_St} (C0 : ql_C p s m args meth c cX2_howMany 4 (some .int) wsX2_howMany RX2 (dC, dI) [(cI, .int)] A) (N : Nat) (P : Nat → ql_St) : ∀ (n : Nat), ∀ (z : ql_St) (i1 : Nat) (x2 : Int32) (x3 : Int32), i1 < 5 → f_X2_howMany_52 N P n z i1 x2 x3 = some res → ∀ (H : Heap) (locs : List Loc) (ls : Array Slot), va_P (dC, dI) vwCl ((ql_gw h ad cI pad P) z) H → va_D A ((ql_gw h ad cI pad P) z) → va_S A s.heap H locs → lv_has ls 4 [(0, .ref h), (1, .ref (pad i1 100)), (2, .int x2), (3, .int x3)] → W p l e rm_X2_howMany s m args below meth c H locs 0 0 (ql_Qi below (dC, dI) (ql_gw h ad cI pad P) A args s res) (F0 m 52 ls []) := by
  have C0q := C0
  obtain ⟨hx, hb, hr, hml, hown, hts, hlocks, hK, hA⟩ := C0q
  have fl18 := hts (Cond.fieldLink RX2 18 "TestedLoops$Plan" "places" "I") (by decide +kernel)
  have fl9 := hts (Cond.fieldLink RX2 9 "TestedLoops$Groups" "first" "[I") (by decide +kernel)
  intro n
  induction n with
  | zero =>
    intro z i1 x2 x3 gi1 hf
    rw [f_X2_howMany_52] at hf
    cases hf
  | succ n ih =>
    intro z i1 x2 x3 gi1 hf H locs ls hP hD hS hl
    rw [f_X2_howMany_52] at hf
    refine lv_iload_n hx hb dX2_howMany_52 rfl (lv_at hl 3 rfl) ?_
    refine lv_aload_n hx hb dX2_howMany_53 rfl (lv_at hl 1 rfl) ?_
    refine va_get (D := (dC, dI)) (ci := 6) (v := .int (P i1 6 0)) (C := RX6) (T := TX6) (N := 10) hx hb hts iw_X2_howMany_X6 hown hK.1 (ql_pl 3 hP rfl gi1) 0 rfl rfl 6 (by decide) fl18 (fun _ h9 => h9) rfl dX2_howMany_54 ?_
    refine lv_icmp_gt (tgt := 92) hx hb dX2_howMany_57 (by decide) (fun c1 => ?_) (fun c1 => ?_)
    · have hf := (if_pos c1).symm.trans hf
      refine lv_iload_n hx hb dX2_howMany_92 rfl (lv_at hl 2 rfl) ?_
      exact ql_iret C0 hf hP hD hS dX2_howMany_93
    · have hf := (if_neg c1).symm.trans hf
      refine lv_iload_n hx hb dX2_howMany_60 rfl (lv_at hl 2 rfl) ?_
      refine lv_aload_n hx hb dX2_howMany_61 rfl (lv_at hl 1 rfl) ?_
      refine lv_iload_n hx hb dX2_howMany_62 rfl (lv_at hl 3 rfl) ?_
      obtain ⟨u2, hu2, hf⟩ := ql_bd hf
      refine ql_callRVi (As := [.int x3]) (rest := [.int x2]) C0 (c_X6_isLive l dC dI (pad i1 100) (pad i1) cI N (P i1) x3 u2 hu2) (cwV 1 hts gX2_howMany_X6_isLive rfl rfl rfl qv_X6_isLive ⟨Nat.le_of_ble_eq_true rfl, Nat.le_of_ble_eq_true rfl⟩) (va_recv hK.1 (ql_pl 3 hP rfl gi1) (ci := 6) (q0 := 0) rfl rfl) (hK.sub [0] rfl) (ql_pl 3 hP rfl gi1) hS hl.1 rfl rfl (Nat.le_of_ble_eq_true rfl) dX2_howMany_63 (fun H1 locs hk hS => ?_)
      have hP := ql_keep hP hk
      refine lv_if_eq (tgt := 83) hx hb dX2_howMany_66 (by decide) (fun c3 => ?_) (fun c3 => ?_)
      · have hf := (if_pos c3).symm.trans hf
        exact w_X2_howMany_83 C0 N P (f_X2_howMany_52 N P n) ih _ _ _ _ gi1 hf _ _ _ hP hD hS (lv_sub hl [0, 1, 3] rfl)
      · have hf := (if_neg c3).symm.trans hf
        refine lv_aload_n hx hb dX2_howMany_69 rfl (lv_at hl 0 rfl) ?_
        refine va_get (D := (dC, dI)) (ci := 2) (v := .ref (ad 0)) (C := RX2) (T := TX2) (N := 2) hx hb hts iw_X2_howMany_X2 hown hK.1 hP 0 rfl rfl 0 (by decide) fl9 (fun _ h9 => h9) rfl dX2_howMany_70 ?_
        refine lv_iload_n hx hb dX2_howMany_73 rfl (lv_at hl 3 rfl) ?_
        have g0 := ql_in (ql_gt hf)
        have hf := ql_gx hf
        refine va_iald (f := (z 0)) hx hb hK.1 hP 1 0 rfl rfl g0 dX2_howMany_74 ?_
        refine lv_iload_n hx hb dX2_howMany_75 rfl (lv_at hl 3 rfl) ?_
        refine lv_icmp_ne (tgt := 83) hx hb dX2_howMany_76 (by decide) (fun c4 => ?_) (fun c4 => ?_)
        · have hf := (if_neg c4).symm.trans hf
          exact w_X2_howMany_83 C0 N P (f_X2_howMany_52 N P n) ih _ _ _ _ gi1 hf _ _ _ hP hD hS (lv_sub hl [0, 1, 3] rfl)
        · have hf := (if_pos c4).symm.trans hf
          refine lv_iconst (v := 1) hx hb dX2_howMany_79 (by decide) ?_
          refine lv_goto (tgt := 84) hx hb dX2_howMany_80 (by decide) ?_
          exact w_X2_howMany_84 C0 N P (f_X2_howMany_52 N P n) ih _ _ _ _ _ gi1 hf _ _ _ hP hD hS (lv_sub hl [0, 1, 3] rfl)
set_option maxHeartbeats 4000000 in
set_option maxRecDepth 100000 in
theorem w_X2_howMany_48 {p : Program} {l : Launch} {e : Env} {s : State} {m : MethodId} {args : Array Value} {below : List Frame} {meth : Method} {c : Code} {dC : Nat → ClassId} {dI : Nat → Nat → Nat} {A : Nat → Prop} {h : Nat} {ad : Nat → Nat} {cI : ClassId} {pad : Nat → Nat → Nat} {res : Int32 × ql_St} (C0 : ql_C p s m args meth c cX2_howMany 4 (some .int) wsX2_howMany RX2 (dC, dI) [(cI, .int)] A) (N : Nat) (P : Nat → ql_St) : ∀ (z : ql_St) (i1 : Nat), i1 < 5 → f_X2_howMany_48 N P z i1 = some res → ∀ (H : Heap) (locs : List Loc) (ls : Array Slot), va_P (dC, dI) vwCl ((ql_gw h ad cI pad P) z) H → va_D A ((ql_gw h ad cI pad P) z) → va_S A s.heap H locs → lv_has ls 4 [(0, .ref h), (1, .ref (pad i1 100))] → W p l e rm_X2_howMany s m args below meth c H locs 0 0 (ql_Qi below (dC, dI) (ql_gw h ad cI pad P) A args s res) (F0 m 48 ls []) := by
  have C0q := C0
  obtain ⟨hx, hb, hr, hml, hown, hts, hlocks, hK, hA⟩ := C0q
  intro z i1 gi1 hf H locs ls hP hD hS hl
  unfold f_X2_howMany_48 at hf
  refine lv_iconst (v := 0) hx hb dX2_howMany_48 (by decide) ?_
  refine lv_istore_n (lv' := [(2, .int 0), (0, .ref h), (1, .ref (pad i1 100))]) hx hb dX2_howMany_49 rfl hl (by decide) rfl (fun ls hl => ?_)
  refine lv_iconst (v := 0) hx hb dX2_howMany_50 (by decide) ?_
  refine lv_istore_n (lv' := [(3, .int 0), (2, .int 0), (0, .ref h), (1, .ref (pad i1 100))]) hx hb dX2_howMany_51 rfl hl (by decide) rfl (fun ls hl => ?_)
  exact w_X2_howMany_52 C0 N P N _ _ _ _ gi1 hf _ _ _ hP hD hS (lv_sub hl [2, 3, 1, 0] rfl)
set_option maxHeartbeats 4000000 in
set_option maxRecDepth 100000 in
theorem w_X2_howMany_25 {p : Program} {l : Launch} {e : Env} {s : State} {m : MethodId} {args : Array Value} {below : List Frame} {meth : Method} {c : Code} {dC : Nat → ClassId} {dI : Nat → Nat → Nat} {A : Nat → Prop} {h : Nat} {ad : Nat → Nat} {cI : ClassId} {pad : Nat → Nat → Nat} {res : Int32 × ql_St} (C0 : ql_C p s m args meth c cX2_howMany 4 (some .int) wsX2_howMany RX2 (dC, dI) [(cI, .int)] A) (N : Nat) (P : Nat → ql_St) : ∀ (n : Nat), ∀ (z : ql_St) (i1 : Nat) (x2 : Int32), i1 < 5 → f_X2_howMany_25 N P n z i1 x2 = some res → ∀ (H : Heap) (locs : List Loc) (ls : Array Slot), va_P (dC, dI) vwCl ((ql_gw h ad cI pad P) z) H → va_D A ((ql_gw h ad cI pad P) z) → va_S A s.heap H locs → lv_has ls 4 [(0, .ref h), (1, .ref (pad i1 100)), (2, .int x2)] → W p l e rm_X2_howMany s m args below meth c H locs 0 0 (ql_Qi below (dC, dI) (ql_gw h ad cI pad P) A args s res) (F0 m 25 ls []) := by
  have C0q := C0
  obtain ⟨hx, hb, hr, hml, hown, hts, hlocks, hK, hA⟩ := C0q
  intro n
  induction n with
  | zero =>
    intro z i1 x2 gi1 hf
    rw [f_X2_howMany_25] at hf
    cases hf
  | succ n ih =>
    intro z i1 x2 gi1 hf H locs ls hP hD hS hl
    rw [f_X2_howMany_25] at hf
    refine lv_iload_n hx hb dX2_howMany_25 rfl (lv_at hl 2 rfl) ?_
    refine lv_bipush (v := 16) hx hb dX2_howMany_26 (by decide) ?_
    refine lv_icmp_gt (tgt := 48) hx hb dX2_howMany_28 (by decide) (fun c5 => ?_) (fun c5 => ?_)
    · have hf := (if_pos c5).symm.trans hf
      exact w_X2_howMany_48 C0 N P _ _ gi1 hf _ _ _ hP hD hS (lv_sub hl [0, 1] rfl)
    · have hf := (if_neg c5).symm.trans hf
      refine lv_aload_n hx hb dX2_howMany_31 rfl (lv_at hl 0 rfl) ?_
      refine lv_aload_n hx hb dX2_howMany_32 rfl (lv_at hl 1 rfl) ?_
      obtain ⟨u6, hu6, hf⟩ := ql_bd hf
      refine ql_callVi (As := [.ref (pad i1 100)]) (rest := []) C0 (c_X2_refine l dC dI h ad cI pad N P z i1 gi1 u6 hu6) (cwV 1 hts gX2_howMany_X2_refine rfl rfl rfl qv_X2_refine ⟨Nat.le_of_ble_eq_true rfl, Nat.le_of_ble_eq_true rfl⟩) (va_recv hK.1 hP (ci := 2) (q0 := 0) rfl rfl) hP hD hS hl.1 rfl rfl (Nat.le_of_ble_eq_true rfl) dX2_howMany_33 (fun H locs hP hD hS => ?_)
      refine lv_if_ne (tgt := 42) hx hb dX2_howMany_36 (by decide) (fun c7 => ?_) (fun c7 => ?_)
      · have hf := (if_neg c7).symm.trans hf
        refine lv_iinc (v := (x2 + 1)) (lv' := [(2, .int (x2 + 1)), (0, .ref h), (1, .ref (pad i1 100))]) hx hb dX2_howMany_42 hl (k := 2) rfl rfl (by decide) rfl (fun ls hl => ?_)
        refine lv_goto (tgt := 25) hx hb dX2_howMany_45 (by decide) ?_
        exact ih _ _ _ gi1 hf _ _ _ hP hD hS (lv_sub hl [1, 2, 0] rfl)
      · have hf := (if_pos c7).symm.trans hf
        refine lv_goto (tgt := 48) hx hb dX2_howMany_39 (by decide) ?_
        exact w_X2_howMany_48 C0 N P _ _ gi1 hf _ _ _ hP hD hS (lv_sub hl [0, 1] rfl)
set_option maxHeartbeats 4000000 in
set_option maxRecDepth 100000 in
theorem w_X2_howMany_2 {p : Program} {l : Launch} {e : Env} {s : State} {m : MethodId} {args : Array Value} {below : List Frame} {meth : Method} {c : Code} {dC : Nat → ClassId} {dI : Nat → Nat → Nat} {A : Nat → Prop} {h : Nat} {ad : Nat → Nat} {cI : ClassId} {pad : Nat → Nat → Nat} {res : Int32 × ql_St} (C0 : ql_C p s m args meth c cX2_howMany 4 (some .int) wsX2_howMany RX2 (dC, dI) [(cI, .int)] A) (N : Nat) (P : Nat → ql_St) : ∀ (n : Nat), ∀ (z : ql_St) (i1 : Nat) (x2 : Int32), i1 < 5 → f_X2_howMany_2 N P n z i1 x2 = some res → ∀ (H : Heap) (locs : List Loc) (ls : Array Slot), va_P (dC, dI) vwCl ((ql_gw h ad cI pad P) z) H → va_D A ((ql_gw h ad cI pad P) z) → va_S A s.heap H locs → lv_has ls 4 [(0, .ref h), (1, .ref (pad i1 100)), (2, .int x2)] → W p l e rm_X2_howMany s m args below meth c H locs 0 0 (ql_Qi below (dC, dI) (ql_gw h ad cI pad P) A args s res) (F0 m 2 ls []) := by
  have C0q := C0
  obtain ⟨hx, hb, hr, hml, hown, hts, hlocks, hK, hA⟩ := C0q
  have fl18 := hts (Cond.fieldLink RX2 18 "TestedLoops$Plan" "places" "I") (by decide +kernel)
  have fl9 := hts (Cond.fieldLink RX2 9 "TestedLoops$Groups" "first" "[I") (by decide +kernel)
  intro n
  induction n with
  | zero =>
    intro z i1 x2 gi1 hf
    rw [f_X2_howMany_2] at hf
    cases hf
  | succ n ih =>
    intro z i1 x2 gi1 hf H locs ls hP hD hS hl
    rw [f_X2_howMany_2] at hf
    refine lv_iload_n hx hb dX2_howMany_2 rfl (lv_at hl 2 rfl) ?_
    refine lv_aload_n hx hb dX2_howMany_3 rfl (lv_at hl 1 rfl) ?_
    refine va_get (D := (dC, dI)) (ci := 6) (v := .int (P i1 6 0)) (C := RX6) (T := TX6) (N := 10) hx hb hts iw_X2_howMany_X6 hown hK.1 (ql_pl 3 hP rfl gi1) 0 rfl rfl 6 (by decide) fl18 (fun _ h9 => h9) rfl dX2_howMany_4 ?_
    refine lv_icmp_gt (tgt := 23) hx hb dX2_howMany_7 (by decide) (fun c8 => ?_) (fun c8 => ?_)
    · have hf := (if_pos c8).symm.trans hf
      refine lv_iconst (v := 0) hx hb dX2_howMany_23 (by decide) ?_
      refine lv_istore_n (lv' := [(2, .int 0), (0, .ref h), (1, .ref (pad i1 100))]) hx hb dX2_howMany_24 rfl hl (by decide) rfl (fun ls hl => ?_)
      exact w_X2_howMany_25 C0 N P N _ _ _ gi1 hf _ _ _ hP hD hS (lv_sub hl [1, 2, 0] rfl)
    · have hf := (if_neg c8).symm.trans hf
      refine lv_aload_n hx hb dX2_howMany_10 rfl (lv_at hl 0 rfl) ?_
      refine va_get (D := (dC, dI)) (ci := 2) (v := .ref (ad 0)) (C := RX2) (T := TX2) (N := 2) hx hb hts iw_X2_howMany_X2 hown hK.1 hP 0 rfl rfl 0 (by decide) fl9 (fun _ h9 => h9) rfl dX2_howMany_11 ?_
      refine lv_iload_n hx hb dX2_howMany_14 rfl (lv_at hl 2 rfl) ?_
      refine lv_iconst (v := 0) hx hb dX2_howMany_15 (by decide) ?_
      have g0 := ql_in (ql_gt hf)
      have hf := ql_gx hf
      refine va_iast (f := (z 0)) hx hb hK.1 hP hD hS 1 0 rfl rfl g0 dX2_howMany_16 (fun H locs hP hD hS => ?_)
      refine lv_iinc (v := (x2 + 1)) (lv' := [(2, .int (x2 + 1)), (0, .ref h), (1, .ref (pad i1 100))]) hx hb dX2_howMany_17 hl (k := 2) rfl rfl (by decide) rfl (fun ls hl => ?_)
      refine lv_goto (tgt := 2) hx hb dX2_howMany_20 (by decide) ?_
      exact ih _ _ _ gi1 hf _ _ _ hP hD hS (lv_sub hl [1, 2, 0] rfl)
set_option maxHeartbeats 4000000 in
set_option maxRecDepth 100000 in
theorem w_X2_howMany_0 {p : Program} {l : Launch} {e : Env} {s : State} {m : MethodId} {args : Array Value} {below : List Frame} {meth : Method} {c : Code} {dC : Nat → ClassId} {dI : Nat → Nat → Nat} {A : Nat → Prop} {h : Nat} {ad : Nat → Nat} {cI : ClassId} {pad : Nat → Nat → Nat} {res : Int32 × ql_St} (C0 : ql_C p s m args meth c cX2_howMany 4 (some .int) wsX2_howMany RX2 (dC, dI) [(cI, .int)] A) (N : Nat) (P : Nat → ql_St) : ∀ (z : ql_St) (i1 : Nat), i1 < 5 → f_X2_howMany_0 N P z i1 = some res → ∀ (H : Heap) (locs : List Loc) (ls : Array Slot), va_P (dC, dI) vwCl ((ql_gw h ad cI pad P) z) H → va_D A ((ql_gw h ad cI pad P) z) → va_S A s.heap H locs → lv_has ls 4 [(0, .ref h), (1, .ref (pad i1 100))] → W p l e rm_X2_howMany s m args below meth c H locs 0 0 (ql_Qi below (dC, dI) (ql_gw h ad cI pad P) A args s res) (F0 m 0 ls []) := by
  have C0q := C0
  obtain ⟨hx, hb, hr, hml, hown, hts, hlocks, hK, hA⟩ := C0q
  intro z i1 gi1 hf H locs ls hP hD hS hl
  unfold f_X2_howMany_0 at hf
  refine lv_iconst (v := 0) hx hb dX2_howMany_0 (by decide) ?_
  refine lv_istore_n (lv' := [(2, .int 0), (0, .ref h), (1, .ref (pad i1 100))]) hx hb dX2_howMany_1 rfl hl (by decide) rfl (fun ls hl => ?_)
  exact w_X2_howMany_2 C0 N P N _ _ _ gi1 hf _ _ _ hP hD hS (lv_sub hl [1, 2, 0] rfl)
set_option maxRecDepth 100000 in
theorem c_X2_howMany (l : Launch) (dC : Nat → ClassId) (dI : Nat → Nat → Nat) (h : Nat) (ad : Nat → Nat) (cI : ClassId) (pad : Nat → Nat → Nat) (N : Nat) (P : Nat → ql_St) (z : ql_St) (i1 : Nat) (gi1 : i1 < 5) (res : Int32 × ql_St) (hf : f_X2_howMany N P z i1 = some res) : ql_Mi l yX2_howMany wsX2_howMany rm_X2_howMany (dC, dI) [(cI, .int)] (ql_gw h ad cI pad P) [.ref h, .ref (pad i1 100)] z res :=
  ql_start_i (by decide) rfl (Nat.le_of_ble_eq_true rfl) (fun p e s m below meth c A ls C0 hl hP hD hS => w_X2_howMany_0 C0 N P z i1 gi1 hf s.heap [] ls hP hD hS (lv_sub (show lv_has ls 4 [(0, .ref h), (1, .ref (pad i1 100))] from hl) [0, 1] rfl))
