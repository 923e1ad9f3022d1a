/-! ===== TestedLoops.dead(I)I ===== -/
abbrev rm_X10_dead : Room := { frames := 2, cells := 0, slots := 0, locals := 42 }
theorem iw_X10_dead_X10 : ∀ w ∈ wsX100, w ∈ wsX10_dead := fun w h => List.mem_cons_of_mem _ (List.mem_append_left _ (List.mem_append_right _ h))
theorem iw_X10_dead_X6 : ∀ w ∈ wsX60, w ∈ wsX10_dead := fun w h => List.mem_cons_of_mem _ (List.mem_append_right _ h)
theorem qv_X10_dead : yX10_dead.cls = RX10 ∧ yX10_dead.cls ≠ "java/lang/invoke/MethodHandle" ∧ yX10_dead.cls ≠ "java/lang/invoke/VarHandle" ∧ (parseMethodDescriptor yX10_dead.desc).map (fun d => d.parameters.length) = some 1 := by decide +kernel
def f_X10_dead_45 (N : Nat) (P : Nat → ql_St) (z : ql_V) (k13 : Int32 → Int32 → Int32 → Option (Int32)) (x1 : Int32) (x2 : Int32) (x3 : Int32) : Option (Int32) := k13 x1 x2 (x3 + 1)
def f_X10_dead_13 (N : Nat) (P : Nat → ql_St) (z : ql_V) : Nat → Int32 → Int32 → Int32 → Option (Int32)
  | 0, _, _, _ => none
  | n + 1, x1, x2, x3 => if ql_ib x1 4 = true then if (P x1.toNatClampNeg 6 0) < x3 then some x2 else if ql_ib x1 4 = true then (f_X6_isLive N (P x1.toNatClampNeg) x3).bind fun u4 => if u4 = 0 then f_X10_dead_45 N P z (f_X10_dead_13 N P z n) x1 (x2 ||| ((1 : Int32) <<< (x3 &&& 31))) x3 else f_X10_dead_45 N P z (f_X10_dead_13 N P z n) x1 x2 x3 else none else none
def f_X10_dead_0 (N : Nat) (P : Nat → ql_St) (z : ql_V) (x1 : Int32) : Option (Int32) := (f_X10_isProgram N x1).bind fun u6 => if u6 = 0 then some (-1) else f_X10_dead_13 N P z N x1 0 1
def f_X10_dead (N : Nat) (P : Nat → ql_St) (z : ql_V) (x1 : Int32) : Option (Int32) := f_X10_dead_0 N P z x1
set_option maxHeartbeats 4000000 in
set_option maxRecDepth 100000 in
theorem w_X10_dead_45 {p : Program} {l : Launch} {e : Env} {s : State} {m : MethodId} {args : Array Value} {below : List Frame} {meth : Method} {c : Code} {dC : Nat → ClassId} {dI : Nat → Nat → Nat} {A : Nat → Prop} {h : Nat} {ad : Nat → Nat} {aR : Nat} {adr : Nat → Nat} {aG : Nat} {adg : Nat → Nat} {aX : Nat} {adx : Nat → Nat} {aT : Nat} {kd : Nat → Nat} {cI cJ cB cP cQ : ClassId} {pad : Nat → Nat → Nat} {res : Int32} (C0 : ql_C p s m args meth c cX10_dead 4 (some .int) wsX10_dead RX10 (dC, dI) [(cI, .int), (cJ, .long), (cB, .byte), (cP, .object RX6), (cQ, .object RX5)] A) (N : Nat) (P : Nat → ql_St) (z : ql_V) (k13 : Int32 → Int32 → Int32 → Option (Int32)) (hk13 : ∀ (x1 : Int32) (x2 : Int32) (x3 : Int32), k13 x1 x2 x3 = some res → ∀ (H : Heap) (locs : List Loc) (ls : Array Slot), va_P (dC, dI) vwCl ((ql_cw h ad aR adr aG adg aX adx aT kd cI cJ cB cP cQ pad P) z) H → va_S A s.heap H locs → lv_has ls 4 [(0, .ref h), (1, .int x1), (2, .int x2), (3, .int x3)] → W p l e rm_X10_dead s m args below meth c H locs 0 0 (ql_Qri below A args s res) (F0 m 13 ls [])) : ∀ (x1 : Int32) (x2 : Int32) (x3 : Int32), f_X10_dead_45 N P z k13 x1 x2 x3 = some res → ∀ (H : Heap) (locs : List Loc) (ls : Array Slot), va_P (dC, dI) vwCl ((ql_cw h ad aR adr aG adg aX adx aT kd cI cJ cB cP cQ pad P) z) H → va_S A s.heap H locs → lv_has ls 4 [(0, .ref h), (1, .int x1), (2, .int x2), (3, .int x3)] → W p l e rm_X10_dead s m args below meth c H locs 0 0 (ql_Qri below A args s res) (F0 m 45 ls []) := by
  have C0q := C0
  obtain ⟨hx, hb, hr, hml, hown, hts, hlocks, hK, hA⟩ := C0q
  intro x1 x2 x3 hf H locs ls hP hS hl
  unfold f_X10_dead_45 at hf
  refine lv_iinc (v := (x3 + 1)) (lv' := [(3, .int (x3 + 1)), (0, .ref h), (1, .int x1), (2, .int x2)]) hx hb dX10_dead_45 hl (k := 3) rfl rfl (by decide) rfl (fun ls hl => ?_)
  refine lv_goto (tgt := 13) hx hb dX10_dead_48 (by decide) ?_
  exact hk13 _ _ _ hf _ _ _ hP hS (lv_sub hl [1, 2, 3, 0] rfl)
set_option maxHeartbeats 4000000 in
set_option maxRecDepth 100000 in
theorem w_X10_dead_13 {p : Program} {l : Launch} {e : Env} {s : State} {m : MethodId} {args : Array Value} {below : List Frame} {meth : Method} {c : Code} {dC : Nat → ClassId} {dI : Nat → Nat → Nat} {A : Nat → Prop} {h : Nat} {ad : Nat → Nat} {aR : Nat} {adr : Nat → Nat} {aG : Nat} {adg : Nat → Nat} {aX : Nat} {adx : Nat → Nat} {aT : Nat} {kd : Nat → Nat} {cI cJ cB cP cQ : ClassId} {pad : Nat → Nat → Nat} {res : Int32} (C0 : ql_C p s m args meth c cX10_dead 4 (some .int) wsX10_dead RX10 (dC, dI) [(cI, .int), (cJ, .long), (cB, .byte), (cP, .object RX6), (cQ, .object RX5)] A) (N : Nat) (P : Nat → ql_St) (z : ql_V) : ∀ (n : Nat), ∀ (x1 : Int32) (x2 : Int32) (x3 : Int32), f_X10_dead_13 N P z n x1 x2 x3 = some res → ∀ (H : Heap) (locs : List Loc) (ls : Array Slot), va_P (dC, dI) vwCl ((ql_cw h ad aR adr aG adg aX adx aT kd cI cJ cB cP cQ pad P) z) H → va_S A s.heap H locs → lv_has ls 4 [(0, .ref h), (1, .int x1), (2, .int x2), (3, .int x3)] → W p l e rm_X10_dead s m args below meth c H locs 0 0 (ql_Qri below A args s res) (F0 m 13 ls []) := by
  have C0q := C0
  obtain ⟨hx, hb, hr, hml, hown, hts, hlocks, hK, hA⟩ := C0q
  have fl15 := hts (Cond.fieldLink RX10 15 "TestedLoops" "plans" "[LTestedLoops$Plan;") (by decide +kernel)
  have fl94 := hts (Cond.fieldLink RX10 94 "TestedLoops$Plan" "places" "I") (by decide +kernel)
  intro n
  induction n with
  | zero =>
    intro x1 x2 x3 hf
    rw [f_X10_dead_13] at hf
    cases hf
  | succ n ih =>
    intro x1 x2 x3 hf H locs ls hP hS hl
    rw [f_X10_dead_13] at hf
    refine lv_iload_n hx hb dX10_dead_13 rfl (lv_at hl 3 rfl) ?_
    refine lv_aload_n hx hb dX10_dead_14 rfl (lv_at hl 0 rfl) ?_
    refine va_get (D := (dC, dI)) (ci := 10) (v := .ref (ad 2)) (C := RX10) (T := TX10) (N := 13) hx hb hts iw_X10_dead_X10 hown hK.1 hP 0 rfl rfl 2 (by decide) fl15 (fun _ h9 => h9) rfl dX10_dead_15 ?_
    refine lv_iload_n hx hb dX10_dead_18 rfl (lv_at hl 1 rfl) ?_
    have g0 := ql_in (ql_gt hf)
    have hf := ql_gx hf
    have gp1 := ql_lt g0
    refine va_aldq (f := ql_pf pad) hx hb hK.1 hP 2 3 rfl rfl g0 dX10_dead_19 ?_
    refine W.eq (g2 := F0 m 20 ls [.ref (pad x1.toNatClampNeg 100), .int x3]) (by rw [ql_pfv gp1]) ?_
    refine va_get (D := (dC, dI)) (ci := 6) (v := .int (P x1.toNatClampNeg 6 0)) (C := RX6) (T := TX6) (N := 10) hx hb hts iw_X10_dead_X6 hown hK.1 (ql_pl 25 hP rfl (Nat.lt_of_lt_of_le gp1 (by decide))) 0 rfl rfl 6 (by decide) fl94 (fun _ h9 => h9) rfl dX10_dead_20 ?_
    refine lv_icmp_gt (tgt := 51) hx hb dX10_dead_23 (by decide) (fun c2 => ?_) (fun c2 => ?_)
    · have hf := (if_pos c2).symm.trans hf
      refine lv_iload_n hx hb dX10_dead_51 rfl (lv_at hl 2 rfl) ?_
      exact ql_riret C0 hf hS dX10_dead_52
    · have hf := (if_neg c2).symm.trans hf
      refine lv_aload_n hx hb dX10_dead_26 rfl (lv_at hl 0 rfl) ?_
      refine va_get (D := (dC, dI)) (ci := 10) (v := .ref (ad 2)) (C := RX10) (T := TX10) (N := 13) hx hb hts iw_X10_dead_X10 hown hK.1 hP 0 rfl rfl 2 (by decide) fl15 (fun _ h9 => h9) rfl dX10_dead_27 ?_
      refine lv_iload_n hx hb dX10_dead_30 rfl (lv_at hl 1 rfl) ?_
      have g0 := ql_in (ql_gt hf)
      have hf := ql_gx hf
      have gp3 := ql_lt g0
      refine va_aldq (f := ql_pf pad) hx hb hK.1 hP 2 3 rfl rfl g0 dX10_dead_31 ?_
      refine W.eq (g2 := F0 m 32 ls [.ref (pad x1.toNatClampNeg 100)]) (by rw [ql_pfv gp3]) ?_
      refine lv_iload_n hx hb dX10_dead_32 rfl (lv_at hl 3 rfl) ?_
      obtain ⟨u4, hu4, hf⟩ := ql_bd hf
      refine ql_callRVi (As := [.int x3]) (rest := []) C0 (c_X6_isLive l dC dI (pad x1.toNatClampNeg 100) (pad x1.toNatClampNeg) cI N (P x1.toNatClampNeg) x3 u4 hu4) (cwV 1 hts gX10_dead_X6_isLive rfl rfl rfl qv_X6_isLive ⟨Nat.le_of_ble_eq_true rfl, Nat.le_of_ble_eq_true rfl⟩) (va_recv hK.1 (ql_pl 25 hP rfl (Nat.lt_of_lt_of_le gp3 (by decide))) (ci := 6) (q0 := 0) rfl rfl) (hK.sub [0] rfl) (ql_pl 25 hP rfl (Nat.lt_of_lt_of_le gp3 (by decide))) hS hl.1 rfl rfl (Nat.le_of_ble_eq_true rfl) dX10_dead_33 (fun H1 locs hk hS => ?_)
      have hP := ql_keep hP hk
      refine lv_if_ne (tgt := 45) hx hb dX10_dead_36 (by decide) (fun c5 => ?_) (fun c5 => ?_)
      · have hf := (if_neg c5).symm.trans hf
        exact w_X10_dead_45 C0 N P z (f_X10_dead_13 N P z n) ih _ _ _ hf _ _ _ hP hS (lv_sub hl [0, 1, 2, 3] rfl)
      · have hf := (if_pos c5).symm.trans hf
        refine lv_iload_n hx hb dX10_dead_39 rfl (lv_at hl 2 rfl) ?_
        refine lv_iconst (v := 1) hx hb dX10_dead_40 (by decide) ?_
        refine lv_iload_n hx hb dX10_dead_41 rfl (lv_at hl 3 rfl) ?_
        refine lv_ishl hx hb dX10_dead_42 ?_
        refine lv_ior hx hb dX10_dead_43 ?_
        refine lv_istore_n (lv' := [(2, .int (x2 ||| ((1 : Int32) <<< (x3 &&& 31)))), (0, .ref h), (1, .int x1), (3, .int x3)]) hx hb dX10_dead_44 rfl hl (by decide) rfl (fun ls hl => ?_)
        exact w_X10_dead_45 C0 N P z (f_X10_dead_13 N P z n) ih _ _ _ hf _ _ _ hP hS (lv_sub hl [1, 2, 0, 3] rfl)
set_option maxHeartbeats 4000000 in
set_option maxRecDepth 100000 in
theorem w_X10_dead_0 {p : Program} {l : Launch} {e : Env} {s : State} {m : MethodId} {args : Array Value} {below : List Frame} {meth : Method} {c : Code} {dC : Nat → ClassId} {dI : Nat → Nat → Nat} {A : Nat → Prop} {h : Nat} {ad : Nat → Nat} {aR : Nat} {adr : Nat → Nat} {aG : Nat} {adg : Nat → Nat} {aX : Nat} {adx : Nat → Nat} {aT : Nat} {kd : Nat → Nat} {cI cJ cB cP cQ : ClassId} {pad : Nat → Nat → Nat} {res : Int32} (C0 : ql_C p s m args meth c cX10_dead 4 (some .int) wsX10_dead RX10 (dC, dI) [(cI, .int), (cJ, .long), (cB, .byte), (cP, .object RX6), (cQ, .object RX5)] A) (N : Nat) (P : Nat → ql_St) (z : ql_V) : ∀ (x1 : Int32), f_X10_dead_0 N P z x1 = some res → ∀ (H : Heap) (locs : List Loc) (ls : Array Slot), va_P (dC, dI) vwCl ((ql_cw h ad aR adr aG adg aX adx aT kd cI cJ cB cP cQ pad P) z) H → va_S A s.heap H locs → lv_has ls 4 [(0, .ref h), (1, .int x1)] → W p l e rm_X10_dead s m args below meth c H locs 0 0 (ql_Qri below A args s res) (F0 m 0 ls []) := by
  have C0q := C0
  obtain ⟨hx, hb, hr, hml, hown, hts, hlocks, hK, hA⟩ := C0q
  intro x1 hf H locs ls hP hS hl
  unfold f_X10_dead_0 at hf
  refine lv_iload_n hx hb dX10_dead_0 rfl (lv_at hl 1 rfl) ?_
  obtain ⟨u6, hu6, hf⟩ := ql_bd hf
  refine ql_callRSi (As := [.int x1]) (rest := []) C0 (c_X10_isProgram l dC dI N x1 u6 hu6) (va_cwS 1 hts gX10_dead_X10_isProgram rfl rfl rfl qd_X10_isProgram ⟨Nat.le_of_ble_eq_true rfl, Nat.le_of_ble_eq_true rfl⟩) (hK.sub [] rfl) ql_nil hS hl.1 rfl rfl (Nat.le_of_ble_eq_true rfl) dX10_dead_1 (fun H1 locs hk hS => ?_)
  have hP := ql_keep hP hk
  refine lv_if_ne (tgt := 9) hx hb dX10_dead_4 (by decide) (fun c7 => ?_) (fun c7 => ?_)
  · have hf := (if_neg c7).symm.trans hf
    refine lv_iconst (v := 0) hx hb dX10_dead_9 (by decide) ?_
    refine lv_istore_n (lv' := [(2, .int 0), (0, .ref h), (1, .int x1)]) hx hb dX10_dead_10 rfl hl (by decide) rfl (fun ls hl => ?_)
    refine lv_iconst (v := 1) hx hb dX10_dead_11 (by decide) ?_
    refine lv_istore_n (lv' := [(3, .int 1), (2, .int 0), (0, .ref h), (1, .int x1)]) hx hb dX10_dead_12 rfl hl (by decide) rfl (fun ls hl => ?_)
    exact w_X10_dead_13 C0 N P z N _ _ _ hf _ _ _ hP hS (lv_sub hl [2, 3, 1, 0] rfl)
  · have hf := (if_pos c7).symm.trans hf
    refine lv_iconst (v := (-1)) hx hb dX10_dead_7 (by decide) ?_
    exact ql_riret C0 hf hS dX10_dead_8
set_option maxRecDepth 100000 in
theorem c_X10_dead (l : Launch) (dC : Nat → ClassId) (dI : Nat → Nat → Nat) (h : Nat) (ad : Nat → Nat) (aR : Nat) (adr : Nat → Nat) (aG : Nat) (adg : Nat → Nat) (aX : Nat) (adx : Nat → Nat) (aT : Nat) (kd : Nat → Nat) (cI cJ cB cP cQ : ClassId) (pad : Nat → Nat → Nat) (N : Nat) (P : Nat → ql_St) (z : ql_V) (x1 : Int32) (res : Int32) (hf : f_X10_dead N P z x1 = some res) : ql_Ri l yX10_dead wsX10_dead rm_X10_dead (dC, dI) [(cI, .int), (cJ, .long), (cB, .byte), (cP, .object RX6), (cQ, .object RX5)] ((ql_cw h ad aR adr aG adg aX adx aT kd cI cJ cB cP cQ pad P) z) [.ref h, .int x1] res :=
  ql_start_ri (by decide) rfl (Nat.le_of_ble_eq_true rfl) (fun p e s m below meth c A ls C0 hl hP hS => w_X10_dead_0 C0 N P z x1 hf s.heap [] ls hP hS (lv_sub (show lv_has ls 4 [(0, .ref h), (1, .int x1)] from hl) [0, 1] rfl))
/-! ===== TestedLoops.ahead(II)I ===== -/
abbrev rm_X10_ahead : Room := { frames := 3, cells := 0, slots := 0, locals := 67 }
theorem iw_X10_ahead_X10 : ∀ w ∈ wsX100, w ∈ wsX10_ahead := fun w h => List.mem_cons_of_mem _ (List.mem_append_left _ (List.mem_append_right _ h))
theorem iw_X10_ahead_X6 : ∀ w ∈ wsX60, w ∈ wsX10_ahead := fun w h => List.mem_cons_of_mem _ (List.mem_append_right _ h)
theorem qv_X10_ahead : yX10_ahead.cls = RX10 ∧ yX10_ahead.cls ≠ "java/lang/invoke/MethodHandle" ∧ yX10_ahead.cls ≠ "java/lang/invoke/VarHandle" ∧ (parseMethodDescriptor yX10_ahead.desc).map (fun d => d.parameters.length) = some 2 := by decide +kernel
def f_X10_ahead_56 (N : Nat) (P : Nat → ql_St) (z : ql_V) (k24 : Int32 → Int32 → Int32 → Int32 → Option (Int32)) (x1 : Int32) (x2 : Int32) (x3 : Int32) (x4 : Int32) : Option (Int32) := k24 x1 x2 x3 (x4 + 1)
def f_X10_ahead_24 (N : Nat) (P : Nat → ql_St) (z : ql_V) : Nat → Int32 → Int32 → Int32 → Int32 → Option (Int32)
  | 0, _, _, _, _ => none
  | n + 1, x1, x2, x3, x4 => if 4 ≤ x4 then some x3 else if ql_ib x1 4 = true then (f_X6_lastsBy N (P x1.toNatClampNeg) 0 x4).bind fun u3 => if (u3 &&& (x2 ^^^ (-1))) = 0 then f_X10_ahead_56 N P z (f_X10_ahead_24 N P z n) x1 x2 (x3 ||| ((1 : Int32) <<< (x4 &&& 31))) x4 else f_X10_ahead_56 N P z (f_X10_ahead_24 N P z n) x1 x2 x3 x4 else none
def f_X10_ahead_0 (N : Nat) (P : Nat → ql_St) (z : ql_V) (x1 : Int32) (x2 : Int32) : Option (Int32) := (f_X10_isProgram N x1).bind fun u5 => if u5 = 0 then some (-1) else if x2 < 0 then some (-1) else if x2 ≤ 15 then f_X10_ahead_24 N P z N x1 x2 0 0 else some (-1)
def f_X10_ahead (N : Nat) (P : Nat → ql_St) (z : ql_V) (x1 : Int32) (x2 : Int32) : Option (Int32) := f_X10_ahead_0 N P z x1 x2
set_option maxHeartbeats 4000000 in
set_option maxRecDepth 100000 in
theorem w_X10_ahead_56 {p : Program} {l : Launch} {e : Env} {s : State} {m : MethodId} {args : Array Value} {below : List Frame} {meth : Method} {c : Code} {dC : Nat → ClassId} {dI : Nat → Nat → Nat} {A : Nat → Prop} {h : Nat} {ad : Nat → Nat} {aR : Nat} {adr : Nat → Nat} {aG : Nat} {adg : Nat → Nat} {aX : Nat} {adx : Nat → Nat} {aT : Nat} {kd : Nat → Nat} {cI cJ cB cP cQ : ClassId} {pad : Nat → Nat → Nat} {res : Int32} (C0 : ql_C p s m args meth c cX10_ahead 5 (some .int) wsX10_ahead RX10 (dC, dI) [(cI, .int), (cJ, .long), (cB, .byte), (cP, .object RX6), (cQ, .object RX5)] A) (N : Nat) (P : Nat → ql_St) (z : ql_V) (k24 : Int32 → Int32 → Int32 → Int32 → Option (Int32)) (hk24 : ∀ (x1 : Int32) (x2 : Int32) (x3 : Int32) (x4 : Int32), k24 x1 x2 x3 x4 = some res → ∀ (H : Heap) (locs : List Loc) (ls : Array Slot), va_P (dC, dI) vwCl ((ql_cw h ad aR adr aG adg aX adx aT kd cI cJ cB cP cQ pad P) z) H → va_S A s.heap H locs → lv_has ls 5 [(0, .ref h), (1, .int x1), (2, .int x2), (3, .int x3), (4, .int x4)] → W p l e rm_X10_ahead s m args below meth c H locs 0 0 (ql_Qri below A args s res) (F0 m 24 ls [])) : ∀ (x1 : Int32) (x2 : Int32) (x3 : Int32) (x4 : Int32), f_X10_ahead_56 N P z k24 x1 x2 x3 x4 = some res → ∀ (H : Heap) (locs : List Loc) (ls : Array Slot), va_P (dC, dI) vwCl ((ql_cw h ad aR adr aG adg aX adx aT kd cI cJ cB cP cQ pad P) z) H → va_S A s.heap H locs → lv_has ls 5 [(0, .ref h), (1, .int x1), (2, .int x2), (3, .int x3), (4, .int x4)] → W p l e rm_X10_ahead s m args below meth c H locs 0 0 (ql_Qri below A args s res) (F0 m 56 ls []) := by
  have C0q := C0
  obtain ⟨hx, hb, hr, hml, hown, hts, hlocks, hK, hA⟩ := C0q
  intro x1 x2 x3 x4 hf H locs ls hP hS hl
  unfold f_X10_ahead_56 at hf
  refine lv_iinc (v := (x4 + 1)) (lv' := [(4, .int (x4 + 1)), (0, .ref h), (1, .int x1), (2, .int x2), (3, .int x3)]) hx hb dX10_ahead_56 hl (k := 4) rfl rfl (by decide) rfl (fun ls hl => ?_)
  refine lv_goto (tgt := 24) hx hb dX10_ahead_59 (by decide) ?_
  exact hk24 _ _ _ _ hf _ _ _ hP hS (lv_sub hl [1, 2, 3, 4, 0] rfl)
set_option maxHeartbeats 4000000 in
set_option maxRecDepth 100000 in
theorem w_X10_ahead_24 {p : Program} {l : Launch} {e : Env} {s : State} {m : MethodId} {args : Array Value} {below : List Frame} {meth : Method} {c : Code} {dC : Nat → ClassId} {dI : Nat → Nat → Nat} {A : Nat → Prop} {h : Nat} {ad : Nat → Nat} {aR : Nat} {adr : Nat → Nat} {aG : Nat} {adg : Nat → Nat} {aX : Nat} {adx : Nat → Nat} {aT : Nat} {kd : Nat → Nat} {cI cJ cB cP cQ : ClassId} {pad : Nat → Nat → Nat} {res : Int32} (C0 : ql_C p s m args meth c cX10_ahead 5 (some .int) wsX10_ahead RX10 (dC, dI) [(cI, .int), (cJ, .long), (cB, .byte), (cP, .object RX6), (cQ, .object RX5)] A) (N : Nat) (P : Nat → ql_St) (z : ql_V) : ∀ (n : Nat), ∀ (x1 : Int32) (x2 : Int32) (x3 : Int32) (x4 : Int32), f_X10_ahead_24 N P z n x1 x2 x3 x4 = some res → ∀ (H : Heap) (locs : List Loc) (ls : Array Slot), va_P (dC, dI) vwCl ((ql_cw h ad aR adr aG adg aX adx aT kd cI cJ cB cP cQ pad P) z) H → va_S A s.heap H locs → lv_has ls 5 [(0, .ref h), (1, .int x1), (2, .int x2), (3, .int x3), (4, .int x4)] → W p l e rm_X10_ahead s m args below meth c H locs 0 0 (ql_Qri below A args s res) (F0 m 24 ls []) := by
  have C0q := C0
  obtain ⟨hx, hb, hr, hml, hown, hts, hlocks, hK, hA⟩ := C0q
  have fl15 := hts (Cond.fieldLink RX10 15 "TestedLoops" "plans" "[LTestedLoops$Plan;") (by decide +kernel)
  intro n
  induction n with
  | zero =>
    intro x1 x2 x3 x4 hf
    rw [f_X10_ahead_24] at hf
    cases hf
  | succ n ih =>
    intro x1 x2 x3 x4 hf H locs ls hP hS hl
    rw [f_X10_ahead_24] at hf
    refine lv_iload hx hb dX10_ahead_24 (lv_at hl 4 rfl) ?_
    refine lv_iconst (v := 4) hx hb dX10_ahead_26 (by decide) ?_
    refine lv_icmp_ge (tgt := 62) hx hb dX10_ahead_27 (by decide) (fun c1 => ?_) (fun c1 => ?_)
    · have hf := (if_pos c1).symm.trans hf
      refine lv_iload_n hx hb dX10_ahead_62 rfl (lv_at hl 3 rfl) ?_
      exact ql_riret C0 hf hS dX10_ahead_63
    · have hf := (if_neg c1).symm.trans hf
      refine lv_aload_n hx hb dX10_ahead_30 rfl (lv_at hl 0 rfl) ?_
      refine va_get (D := (dC, dI)) (ci := 10) (v := .ref (ad 2)) (C := RX10) (T := TX10) (N := 13) hx hb hts iw_X10_ahead_X10 hown hK.1 hP 0 rfl rfl 2 (by decide) fl15 (fun _ h9 => h9) rfl dX10_ahead_31 ?_
      refine lv_iload_n hx hb dX10_ahead_34 rfl (lv_at hl 1 rfl) ?_
      have g0 := ql_in (ql_gt hf)
      have hf := ql_gx hf
      have gp2 := ql_lt g0
      refine va_aldq (f := ql_pf pad) hx hb hK.1 hP 2 3 rfl rfl g0 dX10_ahead_35 ?_
      refine W.eq (g2 := F0 m 36 ls [.ref (pad x1.toNatClampNeg 100)]) (by rw [ql_pfv gp2]) ?_
      refine lv_iconst (v := 0) hx hb dX10_ahead_36 (by decide) ?_
      refine lv_iload hx hb dX10_ahead_37 (lv_at hl 4 rfl) ?_
      obtain ⟨u3, hu3, hf⟩ := ql_bd hf
      refine ql_callRVi (As := [.int 0, .int x4]) (rest := []) C0 (c_X6_lastsBy l dC dI (pad x1.toNatClampNeg 100) (pad x1.toNatClampNeg) cI N (P x1.toNatClampNeg) 0 x4 u3 hu3) (cwV 2 hts gX10_ahead_X6_lastsBy rfl rfl rfl qv_X6_lastsBy ⟨Nat.le_of_ble_eq_true rfl, Nat.le_of_ble_eq_true rfl⟩) (va_recv hK.1 (ql_pl 25 hP rfl (Nat.lt_of_lt_of_le gp2 (by decide))) (ci := 6) (q0 := 0) rfl rfl) (hK.sub [0] rfl) (ql_pl 25 hP rfl (Nat.lt_of_lt_of_le gp2 (by decide))) hS hl.1 rfl rfl (Nat.le_of_ble_eq_true rfl) dX10_ahead_39 (fun H1 locs hk hS => ?_)
      have hP := ql_keep hP hk
      refine lv_iload_n hx hb dX10_ahead_42 rfl (lv_at hl 2 rfl) ?_
      refine lv_iconst (v := (-1)) hx hb dX10_ahead_43 (by decide) ?_
      refine lv_ixor hx hb dX10_ahead_44 ?_
      refine lv_iand hx hb dX10_ahead_45 ?_
      refine lv_if_ne (tgt := 56) hx hb dX10_ahead_46 (by decide) (fun c4 => ?_) (fun c4 => ?_)
      · have hf := (if_neg c4).symm.trans hf
        exact w_X10_ahead_56 C0 N P z (f_X10_ahead_24 N P z n) ih _ _ _ _ hf _ _ _ hP hS (lv_sub hl [0, 1, 2, 3, 4] rfl)
      · have hf := (if_pos c4).symm.trans hf
        refine lv_iload_n hx hb dX10_ahead_49 rfl (lv_at hl 3 rfl) ?_
        refine lv_iconst (v := 1) hx hb dX10_ahead_50 (by decide) ?_
        refine lv_iload hx hb dX10_ahead_51 (lv_at hl 4 rfl) ?_
        refine lv_ishl hx hb dX10_ahead_53 ?_
        refine lv_ior hx hb dX10_ahead_54 ?_
        refine lv_istore_n (lv' := [(3, .int (x3 ||| ((1 : Int32) <<< (x4 &&& 31)))), (0, .ref h), (1, .int x1), (2, .int x2), (4, .int x4)]) hx hb dX10_ahead_55 rfl hl (by decide) rfl (fun ls hl => ?_)
        exact w_X10_ahead_56 C0 N P z (f_X10_ahead_24 N P z n) ih _ _ _ _ hf _ _ _ hP hS (lv_sub hl [1, 2, 3, 0, 4] rfl)
set_option maxHeartbeats 4000000 in
set_option maxRecDepth 100000 in
theorem w_X10_ahead_0 {p : Program} {l : Launch} {e : Env} {s : State} {m : MethodId} {args : Array Value} {below : List Frame} {meth : Method} {c : Code} {dC : Nat → ClassId} {dI : Nat → Nat → Nat} {A : Nat → Prop} {h : Nat} {ad : Nat → Nat} {aR : Nat} {adr : Nat → Nat} {aG : Nat} {adg : Nat → Nat} {aX : Nat} {adx : Nat → Nat} {aT : Nat} {kd : Nat → Nat} {cI cJ cB cP cQ : ClassId} {pad : Nat → Nat → Nat} {res : Int32} (C0 : ql_C p s m args meth c cX10_ahead 5 (some .int) wsX10_ahead RX10 (dC, dI) [(cI, .int), (cJ, .long), (cB, .byte), (cP, .object RX6), (cQ, .object RX5)] A) (N : Nat) (P : Nat → ql_St) (z : ql_V) : ∀ (x1 : Int32) (x2 : Int32), f_X10_ahead_0 N P z x1 x2 = some res → ∀ (H : Heap) (locs : List Loc) (ls : Array Slot), va_P (dC, dI) vwCl ((ql_cw h ad aR adr aG adg aX adx aT kd cI cJ cB cP cQ pad P) z) H → va_S A s.heap H locs → lv_has ls 5 [(0, .ref h), (1, .int x1), (2, .int x2)] → W p l e rm_X10_ahead s m args below meth c H locs 0 0 (ql_Qri below A args s res) (F0 m 0 ls []) := by
  have C0q := C0
  obtain ⟨hx, hb, hr, hml, hown, hts, hlocks, hK, hA⟩ := C0q
  intro x1 x2 hf H locs ls hP hS hl
  unfold f_X10_ahead_0 at hf
  refine lv_iload_n hx hb dX10_ahead_0 rfl (lv_at hl 1 rfl) ?_
  obtain ⟨u5, hu5, hf⟩ := ql_bd hf
  refine ql_callRSi (As := [.int x1]) (rest := []) C0 (c_X10_isProgram l dC dI N x1 u5 hu5) (va_cwS 1 hts gX10_ahead_X10_isProgram rfl rfl rfl qd_X10_isProgram ⟨Nat.le_of_ble_eq_true rfl, Nat.le_of_ble_eq_true rfl⟩) (hK.sub [] rfl) ql_nil hS hl.1 rfl rfl (Nat.le_of_ble_eq_true rfl) dX10_ahead_1 (fun H1 locs hk hS => ?_)
  have hP := ql_keep hP hk
  refine lv_if_eq (tgt := 17) hx hb dX10_ahead_4 (by decide) (fun c6 => ?_) (fun c6 => ?_)
  · have hf := (if_pos c6).symm.trans hf
    refine lv_iconst (v := (-1)) hx hb dX10_ahead_17 (by decide) ?_
    exact ql_riret C0 hf hS dX10_ahead_18
  · have hf := (if_neg c6).symm.trans hf
    refine lv_iload_n hx hb dX10_ahead_7 rfl (lv_at hl 2 rfl) ?_
    refine lv_if_lt (tgt := 17) hx hb dX10_ahead_8 (by decide) (fun c7 => ?_) (fun c7 => ?_)
    · have hf := (if_pos c7).symm.trans hf
      refine lv_iconst (v := (-1)) hx hb dX10_ahead_17 (by decide) ?_
      exact ql_riret C0 hf hS dX10_ahead_18
    · have hf := (if_neg c7).symm.trans hf
      refine lv_iload_n hx hb dX10_ahead_11 rfl (lv_at hl 2 rfl) ?_
      refine lv_bipush (v := 15) hx hb dX10_ahead_12 (by decide) ?_
      refine lv_icmp_le (tgt := 19) hx hb dX10_ahead_14 (by decide) (fun c8 => ?_) (fun c8 => ?_)
      · have hf := (if_pos c8).symm.trans hf
        refine lv_iconst (v := 0) hx hb dX10_ahead_19 (by decide) ?_
        refine lv_istore_n (lv' := [(3, .int 0), (0, .ref h), (1, .int x1), (2, .int x2)]) hx hb dX10_ahead_20 rfl hl (by decide) rfl (fun ls hl => ?_)
        refine lv_iconst (v := 0) hx hb dX10_ahead_21 (by decide) ?_
        refine lv_istore (lv' := [(4, .int 0), (3, .int 0), (0, .ref h), (1, .int x1), (2, .int x2)]) hx hb dX10_ahead_22 hl (by decide) rfl (fun ls hl => ?_)
        exact w_X10_ahead_24 C0 N P z N _ _ _ _ hf _ _ _ hP hS (lv_sub hl [2, 3, 4, 1, 0] rfl)
      · have hf := (if_neg c8).symm.trans hf
        refine lv_iconst (v := (-1)) hx hb dX10_ahead_17 (by decide) ?_
        exact ql_riret C0 hf hS dX10_ahead_18
set_option maxRecDepth 100000 in
theorem c_X10_ahead (l : Launch) (dC : Nat → ClassId) (dI : Nat → Nat → Nat) (h : Nat) (ad : Nat → Nat) (aR : Nat) (adr : Nat → Nat) (aG : Nat) (adg : Nat → Nat) (aX : Nat) (adx : Nat → Nat) (aT : Nat) (kd : Nat → Nat) (cI cJ cB cP cQ : ClassId) (pad : Nat → Nat → Nat) (N : Nat) (P : Nat → ql_St) (z : ql_V) (x1 : Int32) (x2 : Int32) (res : Int32) (hf : f_X10_ahead N P z x1 x2 = some res) : ql_Ri l yX10_ahead wsX10_ahead rm_X10_ahead (dC, dI) [(cI, .int), (cJ, .long), (cB, .byte), (cP, .object RX6), (cQ, .object RX5)] ((ql_cw h ad aR adr aG adg aX adx aT kd cI cJ cB cP cQ pad P) z) [.ref h, .int x1, .int x2] res :=
  ql_start_ri (by decide) rfl (Nat.le_of_ble_eq_true rfl) (fun p e s m below meth c A ls C0 hl hP hS => w_X10_ahead_0 C0 N P z x1 x2 hf s.heap [] ls hP hS (lv_sub (show lv_has ls 5 [(0, .ref h), (1, .int x1), (2, .int x2)] from hl) [0, 1, 2] rfl))
/-! ===== TestedLoops.behind(II)I ===== -/
abbrev rm_X10_behind : Room := { frames := 3, cells := 0, slots := 0, locals := 67 }
theorem iw_X10_behind_X10 : ∀ w ∈ wsX100, w ∈ wsX10_behind := fun w h => List.mem_cons_of_mem _ (List.mem_append_left _ (List.mem_append_right _ h))
theorem iw_X10_behind_X6 : ∀ w ∈ wsX60, w ∈ wsX10_behind := fun w h => List.mem_cons_of_mem _ (List.mem_append_right _ h)
theorem qv_X10_behind : yX10_behind.cls = RX10 ∧ yX10_behind.cls ≠ "java/lang/invoke/MethodHandle" ∧ yX10_behind.cls ≠ "java/lang/invoke/VarHandle" ∧ (parseMethodDescriptor yX10_behind.desc).map (fun d => d.parameters.length) = some 2 := by decide +kernel
def f_X10_behind_54 (N : Nat) (P : Nat → ql_St) (z : ql_V) (k24 : Int32 → Int32 → Int32 → Int32 → Option (Int32)) (x1 : Int32) (x2 : Int32) (x3 : Int32) (x4 : Int32) : Option (Int32) := k24 x1 x2 x3 (x4 + 1)
def f_X10_behind_24 (N : Nat) (P : Nat → ql_St) (z : ql_V) : Nat → Int32 → Int32 → Int32 → Int32 → Option (Int32)
  | 0, _, _, _, _ => none
  | n + 1, x1, x2, x3, x4 => if 4 ≤ x4 then some x3 else (f_X10_holds N x2 x4).bind fun u2 => if u2 = 0 then f_X10_behind_54 N P z (f_X10_behind_24 N P z n) x1 x2 x3 x4 else if ql_ib x1 4 = true then (f_X6_lastsBy N (P x1.toNatClampNeg) 0 x4).bind fun u5 => f_X10_behind_54 N P z (f_X10_behind_24 N P z n) x1 x2 (x3 ||| u5) x4 else none
def f_X10_behind_0 (N : Nat) (P : Nat → ql_St) (z : ql_V) (x1 : Int32) (x2 : Int32) : Option (Int32) := (f_X10_isProgram N x1).bind fun u6 => if u6 = 0 then some (-1) else if x2 < 0 then some (-1) else if x2 ≤ 15 then f_X10_behind_24 N P z N x1 x2 0 0 else some (-1)
def f_X10_behind (N : Nat) (P : Nat → ql_St) (z : ql_V) (x1 : Int32) (x2 : Int32) : Option (Int32) := f_X10_behind_0 N P z x1 x2
set_option maxHeartbeats 4000000 in
set_option maxRecDepth 100000 in
theorem w_X10_behind_54 {p : Program} {l : Launch} {e : Env} {s : State} {m : MethodId} {args : Array Value} {below : List Frame} {meth : Method} {c : Code} {dC : Nat → ClassId} {dI : Nat → Nat → Nat} {A : Nat → Prop} {h : Nat} {ad : Nat → Nat} {aR : Nat} {adr : Nat → Nat} {aG : Nat} {adg : Nat → Nat} {aX : Nat} {adx : Nat → Nat} {aT : Nat} {kd : Nat → Nat} {cI cJ cB cP cQ : ClassId} {pad : Nat → Nat → Nat} {res : Int32} (C0 : ql_C p s m args meth c cX10_behind 5 (some .int) wsX10_behind RX10 (dC, dI) [(cI, .int), (cJ, .long), (cB, .byte), (cP, .object RX6), (cQ, .object RX5)] A) (N : Nat) (P : Nat → ql_St) (z : ql_V) (k24 : Int32 → Int32 → Int32 → Int32 → Option (Int32)) (hk24 : ∀ (x1 : Int32) (x2 : Int32) (x3 : Int32) (x4 : Int32), k24 x1 x2 x3 x4 = some res → ∀ (H : Heap) (locs : List Loc) (ls : Array Slot), va_P (dC, dI) vwCl ((ql_cw h ad aR adr aG adg aX adx aT kd cI cJ cB cP cQ pad P) z) H → va_S A s.heap H locs → lv_has ls 5 [(0, .ref h), (1, .int x1), (2, .int x2), (3, .int x3), (4, .int x4)] → W p l e rm_X10_behind s m args below meth c H locs 0 0 (ql_Qri below A args s res) (F0 m 24 ls [])) : ∀ (x1 : Int32) (x2 : Int32) (x3 : Int32) (x4 : Int32), f_X10_behind_54 N P z k24 x1 x2 x3 x4 = some res → ∀ (H : Heap) (locs : List Loc) (ls : Array Slot), va_P (dC, dI) vwCl ((ql_cw h ad aR adr aG adg aX adx aT kd cI cJ cB cP cQ pad P) z) H → va_S A s.heap H locs → lv_has ls 5 [(0, .ref h), (1, .int x1), (2, .int x2), (3, .int x3), (4, .int x4)] → W p l e rm_X10_behind s m args below meth c H locs 0 0 (ql_Qri below A args s res) (F0 m 54 ls []) := by
  have C0q := C0
  obtain ⟨hx, hb, hr, hml, hown, hts, hlocks, hK, hA⟩ := C0q
  intro x1 x2 x3 x4 hf H locs ls hP hS hl
  unfold f_X10_behind_54 at hf
  refine lv_iinc (v := (x4 + 1)) (lv' := [(4, .int (x4 + 1)), (0, .ref h), (1, .int x1), (2, .int x2), (3, .int x3)]) hx hb dX10_behind_54 hl (k := 4) rfl rfl (by decide) rfl (fun ls hl => ?_)
  refine lv_goto (tgt := 24) hx hb dX10_behind_57 (by decide) ?_
  exact hk24 _ _ _ _ hf _ _ _ hP hS (lv_sub hl [1, 2, 3, 4, 0] rfl)
set_option maxHeartbeats 4000000 in
set_option maxRecDepth 100000 in
theorem w_X10_behind_24 {p : Program} {l : Launch} {e : Env} {s : State} {m : MethodId} {args : Array Value} {below : List Frame} {meth : Method} {c : Code} {dC : Nat → ClassId} {dI : Nat → Nat → Nat} {A : Nat → Prop} {h : Nat} {ad : Nat → Nat} {aR : Nat} {adr : Nat → Nat} {aG : Nat} {adg : Nat → Nat} {aX : Nat} {adx : Nat → Nat} {aT : Nat} {kd : Nat → Nat} {cI cJ cB cP cQ : ClassId} {pad : Nat → Nat → Nat} {res : Int32} (C0 : ql_C p s m args meth c cX10_behind 5 (some .int) wsX10_behind RX10 (dC, dI) [(cI, .int), (cJ, .long), (cB, .byte), (cP, .object RX6), (cQ, .object RX5)] A) (N : Nat) (P : Nat → ql_St) (z : ql_V) : ∀ (n : Nat), ∀ (x1 : Int32) (x2 : Int32) (x3 : Int32) (x4 : Int32), f_X10_behind_24 N P z n x1 x2 x3 x4 = some res → ∀ (H : Heap) (locs : List Loc) (ls : Array Slot), va_P (dC, dI) vwCl ((ql_cw h ad aR adr aG adg aX adx aT kd cI cJ cB cP cQ pad P) z) H → va_S A s.heap H locs → lv_has ls 5 [(0, .ref h), (1, .int x1), (2, .int x2), (3, .int x3), (4, .int x4)] → W p l e rm_X10_behind s m args below meth c H locs 0 0 (ql_Qri below A args s res) (F0 m 24 ls []) := by
  have C0q := C0
  obtain ⟨hx, hb, hr, hml, hown, hts, hlocks, hK, hA⟩ := C0q
  have fl15 := hts (Cond.fieldLink RX10 15 "TestedLoops" "plans" "[LTestedLoops$Plan;") (by decide +kernel)
  intro n
  induction n with
  | zero =>
    intro x1 x2 x3 x4 hf
    rw [f_X10_behind_24] at hf
    cases hf
  | succ n ih =>
    intro x1 x2 x3 x4 hf H locs ls hP hS hl
    rw [f_X10_behind_24] at hf
    refine lv_iload hx hb dX10_behind_24 (lv_at hl 4 rfl) ?_
    refine lv_iconst (v := 4) hx hb dX10_behind_26 (by decide) ?_
    refine lv_icmp_ge (tgt := 60) hx hb dX10_behind_27 (by decide) (fun c1 => ?_) (fun c1 => ?_)
    · have hf := (if_pos c1).symm.trans hf
      refine lv_iload_n hx hb dX10_behind_60 rfl (lv_at hl 3 rfl) ?_
      exact ql_riret C0 hf hS dX10_behind_61
    · have hf := (if_neg c1).symm.trans hf
      refine lv_iload_n hx hb dX10_behind_30 rfl (lv_at hl 2 rfl) ?_
      refine lv_iload hx hb dX10_behind_31 (lv_at hl 4 rfl) ?_
      obtain ⟨u2, hu2, hf⟩ := ql_bd hf
      refine ql_callRSi (As := [.int x2, .int x4]) (rest := []) C0 (c_X10_holds l dC dI N x2 x4 u2 hu2) (va_cwS 2 hts gX10_behind_X10_holds rfl rfl rfl qd_X10_holds ⟨Nat.le_of_ble_eq_true rfl, Nat.le_of_ble_eq_true rfl⟩) (hK.sub [] rfl) ql_nil hS hl.1 rfl rfl (Nat.le_of_ble_eq_true rfl) dX10_behind_33 (fun H1 locs hk hS => ?_)
      have hP := ql_keep hP hk
      refine lv_if_eq (tgt := 54) hx hb dX10_behind_36 (by decide) (fun c3 => ?_) (fun c3 => ?_)
      · have hf := (if_pos c3).symm.trans hf
        exact w_X10_behind_54 C0 N P z (f_X10_behind_24 N P z n) ih _ _ _ _ hf _ _ _ hP hS (lv_sub hl [0, 1, 2, 3, 4] rfl)
      · have hf := (if_neg c3).symm.trans hf
        refine lv_iload_n hx hb dX10_behind_39 rfl (lv_at hl 3 rfl) ?_
        refine lv_aload_n hx hb dX10_behind_40 rfl (lv_at hl 0 rfl) ?_
        refine va_get (D := (dC, dI)) (ci := 10) (v := .ref (ad 2)) (C := RX10) (T := TX10) (N := 13) hx hb hts iw_X10_behind_X10 hown hK.1 hP 0 rfl rfl 2 (by decide) fl15 (fun _ h9 => h9) rfl dX10_behind_41 ?_
        refine lv_iload_n hx hb dX10_behind_44 rfl (lv_at hl 1 rfl) ?_
        have g0 := ql_in (ql_gt hf)
        have hf := ql_gx hf
        have gp4 := ql_lt g0
        refine va_aldq (f := ql_pf pad) hx hb hK.1 hP 2 3 rfl rfl g0 dX10_behind_45 ?_
        refine W.eq (g2 := F0 m 46 ls [.ref (pad x1.toNatClampNeg 100), .int x3]) (by rw [ql_pfv gp4]) ?_
        refine lv_iconst (v := 0) hx hb dX10_behind_46 (by decide) ?_
        refine lv_iload hx hb dX10_behind_47 (lv_at hl 4 rfl) ?_
        obtain ⟨u5, hu5, hf⟩ := ql_bd hf
        refine ql_callRVi (As := [.int 0, .int x4]) (rest := [.int x3]) C0 (c_X6_lastsBy l dC dI (pad x1.toNatClampNeg 100) (pad x1.toNatClampNeg) cI N (P x1.toNatClampNeg) 0 x4 u5 hu5) (cwV 2 hts gX10_behind_X6_lastsBy rfl rfl rfl qv_X6_lastsBy ⟨Nat.le_of_ble_eq_true rfl, Nat.le_of_ble_eq_true rfl⟩) (va_recv hK.1 (ql_pl 25 hP rfl (Nat.lt_of_lt_of_le gp4 (by decide))) (ci := 6) (q0 := 0) rfl rfl) (hK.sub [0] rfl) (ql_pl 25 hP rfl (Nat.lt_of_lt_of_le gp4 (by decide))) hS hl.1 rfl rfl (Nat.le_of_ble_eq_true rfl) dX10_behind_49 (fun H1 locs hk hS => ?_)
        have hP := ql_keep hP hk
        refine lv_ior hx hb dX10_behind_52 ?_
        refine lv_istore_n (lv' := [(3, .int (x3 ||| u5)), (0, .ref h), (1, .int x1), (2, .int x2), (4, .int x4)]) hx hb dX10_behind_53 rfl hl (by decide) rfl (fun ls hl => ?_)
        exact w_X10_behind_54 C0 N P z (f_X10_behind_24 N P z n) ih _ _ _ _ hf _ _ _ hP hS (lv_sub hl [1, 2, 3, 0, 4] rfl)
set_option maxHeartbeats 4000000 in
set_option maxRecDepth 100000 in
theorem w_X10_behind_0 {p : Program} {l : Launch} {e : Env} {s : State} {m : MethodId} {args : Array Value} {below : List Frame} {meth : Method} {c : Code} {dC : Nat → ClassId} {dI : Nat → Nat → Nat} {A : Nat → Prop} {h : Nat} {ad : Nat → Nat} {aR : Nat} {adr : Nat → Nat} {aG : Nat} {adg : Nat → Nat} {aX : Nat} {adx : Nat → Nat} {aT : Nat} {kd : Nat → Nat} {cI cJ cB cP cQ : ClassId} {pad : Nat → Nat → Nat} {res : Int32} (C0 : ql_C p s m args meth c cX10_behind 5 (some .int) wsX10_behind RX10 (dC, dI) [(cI, .int), (cJ, .long), (cB, .byte), (cP, .object RX6), (cQ, .object RX5)] A) (N : Nat) (P : Nat → ql_St) (z : ql_V) : ∀ (x1 : Int32) (x2 : Int32), f_X10_behind_0 N P z x1 x2 = some res → ∀ (H : Heap) (locs : List Loc) (ls : Array Slot), va_P (dC, dI) vwCl ((ql_cw h ad aR adr aG adg aX adx aT kd cI cJ cB cP cQ pad P) z) H → va_S A s.heap H locs → lv_has ls 5 [(0, .ref h), (1, .int x1), (2, .int x2)] → W p l e rm_X10_behind s m args below meth c H locs 0 0 (ql_Qri below A args s res) (F0 m 0 ls []) := by
  have C0q := C0
  obtain ⟨hx, hb, hr, hml, hown, hts, hlocks, hK, hA⟩ := C0q
  intro x1 x2 hf H locs ls hP hS hl
  unfold f_X10_behind_0 at hf
  refine lv_iload_n hx hb dX10_behind_0 rfl (lv_at hl 1 rfl) ?_
  obtain ⟨u6, hu6, hf⟩ := ql_bd hf
  refine ql_callRSi (As := [.int x1]) (rest := []) C0 (c_X10_isProgram l dC dI N x1 u6 hu6) (va_cwS 1 hts gX10_behind_X10_isProgram rfl rfl rfl qd_X10_isProgram ⟨Nat.le_of_ble_eq_true rfl, Nat.le_of_ble_eq_true rfl⟩) (hK.sub [] rfl) ql_nil hS hl.1 rfl rfl (Nat.le_of_ble_eq_true rfl) dX10_behind_1 (fun H1 locs hk hS => ?_)
  have hP := ql_keep hP hk
  refine lv_if_eq (tgt := 17) hx hb dX10_behind_4 (by decide) (fun c7 => ?_) (fun c7 => ?_)
  · have hf := (if_pos c7).symm.trans hf
    refine lv_iconst (v := (-1)) hx hb dX10_behind_17 (by decide) ?_
    exact ql_riret C0 hf hS dX10_behind_18
  · have hf := (if_neg c7).symm.trans hf
    refine lv_iload_n hx hb dX10_behind_7 rfl (lv_at hl 2 rfl) ?_
    refine lv_if_lt (tgt := 17) hx hb dX10_behind_8 (by decide) (fun c8 => ?_) (fun c8 => ?_)
    · have hf := (if_pos c8).symm.trans hf
      refine lv_iconst (v := (-1)) hx hb dX10_behind_17 (by decide) ?_
      exact ql_riret C0 hf hS dX10_behind_18
    · have hf := (if_neg c8).symm.trans hf
      refine lv_iload_n hx hb dX10_behind_11 rfl (lv_at hl 2 rfl) ?_
      refine lv_bipush (v := 15) hx hb dX10_behind_12 (by decide) ?_
      refine lv_icmp_le (tgt := 19) hx hb dX10_behind_14 (by decide) (fun c9 => ?_) (fun c9 => ?_)
      · have hf := (if_pos c9).symm.trans hf
        refine lv_iconst (v := 0) hx hb dX10_behind_19 (by decide) ?_
        refine lv_istore_n (lv' := [(3, .int 0), (0, .ref h), (1, .int x1), (2, .int x2)]) hx hb dX10_behind_20 rfl hl (by decide) rfl (fun ls hl => ?_)
        refine lv_iconst (v := 0) hx hb dX10_behind_21 (by decide) ?_
        refine lv_istore (lv' := [(4, .int 0), (3, .int 0), (0, .ref h), (1, .int x1), (2, .int x2)]) hx hb dX10_behind_22 hl (by decide) rfl (fun ls hl => ?_)
        exact w_X10_behind_24 C0 N P z N _ _ _ _ hf _ _ _ hP hS (lv_sub hl [2, 3, 4, 1, 0] rfl)
      · have hf := (if_neg c9).symm.trans hf
        refine lv_iconst (v := (-1)) hx hb dX10_behind_17 (by decide) ?_
        exact ql_riret C0 hf hS dX10_behind_18
set_option maxRecDepth 100000 in
theorem c_X10_behind (l : Launch) (dC : Nat → ClassId) (dI : Nat → Nat → Nat) (h : Nat) (ad : Nat → Nat) (aR : Nat) (adr : Nat → Nat) (aG : Nat) (adg : Nat → Nat) (aX : Nat) (adx : Nat → Nat) (aT : Nat) (kd : Nat → Nat) (cI cJ cB cP cQ : ClassId) (pad : Nat → Nat → Nat) (N : Nat) (P : Nat → ql_St) (z : ql_V) (x1 : Int32) (x2 : Int32) (res : Int32) (hf : f_X10_behind N P z x1 x2 = some res) : ql_Ri l yX10_behind wsX10_behind rm_X10_behind (dC, dI) [(cI, .int), (cJ, .long), (cB, .byte), (cP, .object RX6), (cQ, .object RX5)] ((ql_cw h ad aR adr aG adg aX adx aT kd cI cJ cB cP cQ pad P) z) [.ref h, .int x1, .int x2] res :=
  ql_start_ri (by decide) rfl (Nat.le_of_ble_eq_true rfl) (fun p e s m below meth c A ls C0 hl hP hS => w_X10_behind_0 C0 N P z x1 x2 hf s.heap [] ls hP hS (lv_sub (show lv_has ls 5 [(0, .ref h), (1, .int x1), (2, .int x2)] from hl) [0, 1, 2] rfl))
/-! ===== TestedLoops.alike(II)I ===== -/
abbrev rm_X10_alike : Room := { frames := 5, cells := 0, slots := 0, locals := 122 }
theorem iw_X10_alike_X10 : ∀ w ∈ wsX100, w ∈ wsX10_alike := fun w h => List.mem_cons_of_mem _ (List.mem_append_left _ (List.mem_append_left _ (List.mem_append_right _ h)))
theorem iw_X10_alike_X4 : ∀ w ∈ wsX40, w ∈ wsX10_alike := fun w h => List.mem_cons_of_mem _ (List.mem_append_left _ (List.mem_append_right _ h))
theorem iw_X10_alike_X6 : ∀ w ∈ wsX60, w ∈ wsX10_alike := fun w h => List.mem_cons_of_mem _ (List.mem_append_right _ h)
theorem qv_X10_alike : yX10_alike.cls = RX10 ∧ yX10_alike.cls ≠ "java/lang/invoke/MethodHandle" ∧ yX10_alike.cls ≠ "java/lang/invoke/VarHandle" ∧ (parseMethodDescriptor yX10_alike.desc).map (fun d => d.parameters.length) = some 2 := by decide +kernel
def f_X10_alike_0 (N : Nat) (P : Nat → ql_St) (z : ql_V) (x1 : Int32) (x2 : Int32) : Option (Int32 × ql_V) := (f_X10_isProgram N x1).bind fun u1 => if u1 = 0 then some ((-1), z) else (f_X10_isProgram N x2).bind fun u3 => if u3 = 0 then some ((-1), z) else if ql_ib x1 4 = true then if ql_ib x2 4 = true then (f_X4_findRow N P (z.2.2.2.2.1, z.2.2.2.2.2) x1.toNatClampNeg x2.toNatClampNeg 1).bind fun u7 => if u7.1 = 0 then some (1, (z.1, z.2.1, z.2.2.1, z.2.2.2.1, u7.2.1, u7.2.2)) else some (0, (z.1, z.2.1, z.2.2.1, z.2.2.2.1, u7.2.1, u7.2.2)) else none else none
def f_X10_alike (N : Nat) (P : Nat → ql_St) (z : ql_V) (x1 : Int32) (x2 : Int32) : Option (Int32 × ql_V) := f_X10_alike_0 N P z x1 x2
set_option maxHeartbeats 4000000 in
set_option maxRecDepth 100000 in
theorem w_X10_alike_0 {p : Program} {l : Launch} {e : Env} {s : State} {m : MethodId} {args : Array Value} {below : List Frame} {meth : Method} {c : Code} {dC : Nat → ClassId} {dI : Nat → Nat → Nat} {A : Nat → Prop} {h : Nat} {ad : Nat → Nat} {aR : Nat} {adr : Nat → Nat} {aG : Nat} {adg : Nat → Nat} {aX : Nat} {adx : Nat → Nat} {aT : Nat} {kd : Nat → Nat} {cI cJ cB cP cQ : ClassId} {pad : Nat → Nat → Nat} {res : Int32 × ql_V} (C0 : ql_C p s m args meth c cX10_alike 3 (some .int) wsX10_alike RX10 (dC, dI) [(cI, .int), (cJ, .long), (cB, .byte), (cP, .object RX6), (cQ, .object RX5)] A) (N : Nat) (P : Nat → ql_St) : ∀ (z : ql_V) (x1 : Int32) (x2 : Int32), f_X10_alike_0 N P z x1 x2 = some res → ∀ (H : Heap) (locs : List Loc) (ls : Array Slot), va_P (dC, dI) vwCl ((ql_cw h ad aR adr aG adg aX adx aT kd cI cJ cB cP cQ pad P) z) H → va_D A ((ql_cw h ad aR adr aG adg aX adx aT kd cI cJ cB cP cQ pad P) z) → va_S A s.heap H locs → lv_has ls 3 [(0, .ref h), (1, .int x1), (2, .int x2)] → W p l e rm_X10_alike s m args below meth c H locs 0 0 (ql_Qi below (dC, dI) (ql_cw h ad aR adr aG adg aX adx aT kd cI cJ cB cP cQ pad P) A args s res) (F0 m 0 ls []) := by
  have C0q := C0
  obtain ⟨hx, hb, hr, hml, hown, hts, hlocks, hK, hA⟩ := C0q
  have fl29 := hts (Cond.fieldLink RX10 29 "TestedLoops" "pairs" "LTestedLoops$Pairs;") (by decide +kernel)
  have fl15 := hts (Cond.fieldLink RX10 15 "TestedLoops" "plans" "[LTestedLoops$Plan;") (by decide +kernel)
  intro z x1 x2 hf H locs ls hP hD hS hl
  unfold f_X10_alike_0 at hf
  refine lv_iload_n hx hb dX10_alike_0 rfl (lv_at hl 1 rfl) ?_
  obtain ⟨u1, hu1, hf⟩ := ql_bd hf
  refine ql_callRSi (As := [.int x1]) (rest := []) C0 (c_X10_isProgram l dC dI N x1 u1 hu1) (va_cwS 1 hts gX10_alike_X10_isProgram rfl rfl rfl qd_X10_isProgram ⟨Nat.le_of_ble_eq_true rfl, Nat.le_of_ble_eq_true rfl⟩) (hK.sub [] rfl) ql_nil hS hl.1 rfl rfl (Nat.le_of_ble_eq_true rfl) dX10_alike_1 (fun H1 locs hk hS => ?_)
  have hP := ql_keep hP hk
  refine lv_if_eq (tgt := 14) hx hb dX10_alike_4 (by decide) (fun c2 => ?_) (fun c2 => ?_)
  · have hf := (if_pos c2).symm.trans hf
    refine lv_iconst (v := (-1)) hx hb dX10_alike_14 (by decide) ?_
    exact ql_iret C0 hf hP hD hS dX10_alike_15
  · have hf := (if_neg c2).symm.trans hf
    refine lv_iload_n hx hb dX10_alike_7 rfl (lv_at hl 2 rfl) ?_
    obtain ⟨u3, hu3, hf⟩ := ql_bd hf
    refine ql_callRSi (As := [.int x2]) (rest := []) C0 (c_X10_isProgram l dC dI N x2 u3 hu3) (va_cwS 1 hts gX10_alike_X10_isProgram rfl rfl rfl qd_X10_isProgram ⟨Nat.le_of_ble_eq_true rfl, Nat.le_of_ble_eq_true rfl⟩) (hK.sub [] rfl) ql_nil hS hl.1 rfl rfl (Nat.le_of_ble_eq_true rfl) dX10_alike_8 (fun H1 locs hk hS => ?_)
    have hP := ql_keep hP hk
    refine lv_if_ne (tgt := 16) hx hb dX10_alike_11 (by decide) (fun c4 => ?_) (fun c4 => ?_)
    · have hf := (if_neg c4).symm.trans hf
      refine lv_aload_n hx hb dX10_alike_16 rfl (lv_at hl 0 rfl) ?_
      refine va_get (D := (dC, dI)) (ci := 10) (v := .ref aX) (C := RX10) (T := TX10) (N := 13) hx hb hts iw_X10_alike_X10 hown hK.1 hP 0 rfl rfl 4 (by decide) fl29 (fun _ h9 => h9) rfl dX10_alike_17 ?_
      refine lv_aload_n hx hb dX10_alike_20 rfl (lv_at hl 0 rfl) ?_
      refine va_get (D := (dC, dI)) (ci := 10) (v := .ref (ad 2)) (C := RX10) (T := TX10) (N := 13) hx hb hts iw_X10_alike_X10 hown hK.1 hP 0 rfl rfl 2 (by decide) fl15 (fun _ h9 => h9) rfl dX10_alike_21 ?_
      refine lv_iload_n hx hb dX10_alike_24 rfl (lv_at hl 1 rfl) ?_
      have g0 := ql_in (ql_gt hf)
      have hf := ql_gx hf
      have gp5 := ql_lt g0
      refine va_aldq (f := ql_pf pad) hx hb hK.1 hP 2 3 rfl rfl g0 dX10_alike_25 ?_
      refine W.eq (g2 := F0 m 26 ls [.ref (pad x1.toNatClampNeg 100), .ref aX]) (by rw [ql_pfv gp5]) ?_
      refine lv_aload_n hx hb dX10_alike_26 rfl (lv_at hl 0 rfl) ?_
      refine va_get (D := (dC, dI)) (ci := 10) (v := .ref (ad 2)) (C := RX10) (T := TX10) (N := 13) hx hb hts iw_X10_alike_X10 hown hK.1 hP 0 rfl rfl 2 (by decide) fl15 (fun _ h9 => h9) rfl dX10_alike_27 ?_
      refine lv_iload_n hx hb dX10_alike_30 rfl (lv_at hl 2 rfl) ?_
      have g0 := ql_in (ql_gt hf)
      have hf := ql_gx hf
      have gp6 := ql_lt g0
      refine va_aldq (f := ql_pf pad) hx hb hK.1 hP 2 3 rfl rfl g0 dX10_alike_31 ?_
      refine W.eq (g2 := F0 m 32 ls [.ref (pad x2.toNatClampNeg 100), .ref (pad x1.toNatClampNeg 100), .ref aX]) (by rw [ql_pfv gp6]) ?_
      refine lv_iconst (v := 1) hx hb dX10_alike_32 (by decide) ?_
      obtain ⟨u7, hu7, hf⟩ := ql_bd hf
      refine ql_subVi (wr := ql_cm h ad aR aG aX aT kd cI cJ cB cP cQ pad z.1 z.2.1 ++ (ql_rc aR adr (pad 4 100) cI z.2.2.1 ++ ql_gc aG adg cI z.2.2.2.1)) (As := [.ref (pad x1.toNatClampNeg 100), .ref (pad x2.toNatClampNeg 100), .int 1]) (rest := []) C0 (c_X4_findRow l dC dI aX adx cI cJ pad N P (z.2.2.2.2.1, z.2.2.2.2.2) x1.toNatClampNeg x2.toNatClampNeg 1 (Nat.lt_of_lt_of_le gp5 (by decide)) (Nat.lt_of_lt_of_le gp6 (by decide)) u7 hu7) (cwV 3 hts gX10_alike_X4_findRow rfl rfl rfl qv_X4_findRow ⟨Nat.le_of_ble_eq_true rfl, Nat.le_of_ble_eq_true rfl⟩) (hK.sub [0, 1] rfl) [19, 20, 21, 22, 23, 24, 25, 26, 27, 28, 29, 30, 31, 32, 33, 34, 35, 36, 37, 38, 39, 40, 41, 42, 43, 44, 45, 46, 47, 48, 49, 50, 51, 52, 53, 54, 55, 56, 57, 58, 59, 60, 61, 62, 63, 64] [0, 1, 2, 3, 4, 5, 6, 7, 8, 9, 10, 11, 12, 13, 14, 15, 16, 17, 18] rfl rfl rfl rfl (by decide) (va_recv hK.1 hP (ci := 4) (q0 := 19) rfl rfl) hP hD hS hl.1 rfl rfl (Nat.le_of_ble_eq_true rfl) dX10_alike_33 (fun H locs hP hD hS => ?_)
      have hP : va_P (dC, dI) vwCl ((ql_cw h ad aR adr aG adg aX adx aT kd cI cJ cB cP cQ pad P) (z.1, z.2.1, z.2.2.1, z.2.2.2.1, u7.2.1, u7.2.2)) _ := hP
      have hD : va_D A ((ql_cw h ad aR adr aG adg aX adx aT kd cI cJ cB cP cQ pad P) (z.1, z.2.1, z.2.2.1, z.2.2.2.1, u7.2.1, u7.2.2)) := hD
      refine lv_if_eq (tgt := 43) hx hb dX10_alike_36 (by decide) (fun c8 => ?_) (fun c8 => ?_)
      · have hf := (if_pos c8).symm.trans hf
        refine lv_iconst (v := 1) hx hb dX10_alike_43 (by decide) ?_
        exact ql_iret C0 hf hP hD hS dX10_alike_44
      · have hf := (if_neg c8).symm.trans hf
        refine lv_iconst (v := 0) hx hb dX10_alike_39 (by decide) ?_
        refine lv_goto (tgt := 44) hx hb dX10_alike_40 (by decide) ?_
        exact ql_iret C0 hf hP hD hS dX10_alike_44
    · have hf := (if_pos c4).symm.trans hf
      refine lv_iconst (v := (-1)) hx hb dX10_alike_14 (by decide) ?_
      exact ql_iret C0 hf hP hD hS dX10_alike_15
set_option maxRecDepth 100000 in
theorem c_X10_alike (l : Launch) (dC : Nat → ClassId) (dI : Nat → Nat → Nat) (h : Nat) (ad : Nat → Nat) (aR : Nat) (adr : Nat → Nat) (aG : Nat) (adg : Nat → Nat) (aX : Nat) (adx : Nat → Nat) (aT : Nat) (kd : Nat → Nat) (cI cJ cB cP cQ : ClassId) (pad : Nat → Nat → Nat) (N : Nat) (P : Nat → ql_St) (z : ql_V) (x1 : Int32) (x2 : Int32) (res : Int32 × ql_V) (hf : f_X10_alike N P z x1 x2 = some res) : ql_Mi l yX10_alike wsX10_alike rm_X10_alike (dC, dI) [(cI, .int), (cJ, .long), (cB, .byte), (cP, .object RX6), (cQ, .object RX5)] (ql_cw h ad aR adr aG adg aX adx aT kd cI cJ cB cP cQ pad P) [.ref h, .int x1, .int x2] z res :=
  ql_start_i (by decide) rfl (Nat.le_of_ble_eq_true rfl) (fun p e s m below meth c A ls C0 hl hP hD hS => w_X10_alike_0 C0 N P z x1 x2 hf s.heap [] ls hP hD hS (lv_sub (show lv_has ls 3 [(0, .ref h), (1, .int x1), (2, .int x2)] from hl) [0, 1, 2] rfl))
/-! ===== TestedLoops.apart(II)J ===== -/
abbrev rm_X10_apart : Room := { frames := 5, cells := 0, slots := 0, locals := 122 }
theorem iw_X10_apart_X10 : ∀ w ∈ wsX100, w ∈ wsX10_apart := fun w h => List.mem_cons_of_mem _ (List.mem_append_left _ (List.mem_append_left _ (List.mem_append_right _ h)))
theorem iw_X10_apart_X4 : ∀ w ∈ wsX40, w ∈ wsX10_apart := fun w h => List.mem_cons_of_mem _ (List.mem_append_left _ (List.mem_append_right _ h))
theorem iw_X10_apart_X6 : ∀ w ∈ wsX60, w ∈ wsX10_apart := fun w h => List.mem_cons_of_mem _ (List.mem_append_right _ h)
theorem qv_X10_apart : yX10_apart.cls = RX10 ∧ yX10_apart.cls ≠ "java/lang/invoke/MethodHandle" ∧ yX10_apart.cls ≠ "java/lang/invoke/VarHandle" ∧ (parseMethodDescriptor yX10_apart.desc).map (fun d => d.parameters.length) = some 2 := by decide +kernel
def f_X10_apart_14 (N : Nat) (P : Nat → ql_St) (z : ql_V) : Option (Int64 × ql_V) := some ((-1), z)
def f_X10_apart_0 (N : Nat) (P : Nat → ql_St) (z : ql_V) (x1 : Int32) (x2 : Int32) : Option (Int64 × ql_V) := (f_X10_isProgram N x1).bind fun u1 => if u1 = 0 then f_X10_apart_14 N P z else (f_X10_isProgram N x2).bind fun u3 => if u3 = 0 then f_X10_apart_14 N P z else if ql_ib x1 4 = true then if ql_ib x2 4 = true then (f_X4_findRow N P (z.2.2.2.2.1, z.2.2.2.2.2) x1.toNatClampNeg x2.toNatClampNeg 1).bind fun u7 => if u7.1 = 0 then some ((-9), (z.1, z.2.1, z.2.2.1, z.2.2.2.1, u7.2.1, u7.2.2)) else if (u7.2.1 6 0) ≤ 16 then some ((u7.2.2 7 0), (z.1, z.2.1, z.2.2.1, z.2.2.2.1, u7.2.1, u7.2.2)) else some ((-10), (z.1, z.2.1, z.2.2.1, z.2.2.2.1, u7.2.1, u7.2.2)) else none else none
def f_X10_apart (N : Nat) (P : Nat → ql_St) (z : ql_V) (x1 : Int32) (x2 : Int32) : Option (Int64 × ql_V) := f_X10_apart_0 N P z x1 x2
set_option maxHeartbeats 4000000 in
set_option maxRecDepth 100000 in
theorem w_X10_apart_14 {p : Program} {l : Launch} {e : Env} {s : State} {m : MethodId} {args : Array Value} {below : List Frame} {meth : Method} {c : Code} {dC : Nat → ClassId} {dI : Nat → Nat → Nat} {A : Nat → Prop} {h : Nat} {ad : Nat → Nat} {aR : Nat} {adr : Nat → Nat} {aG : Nat} {adg : Nat → Nat} {aX : Nat} {adx : Nat → Nat} {aT : Nat} {kd : Nat → Nat} {cI cJ cB cP cQ : ClassId} {pad : Nat → Nat → Nat} {res : Int64 × ql_V} (C0 : ql_C p s m args meth c cX10_apart 3 (some .long) wsX10_apart RX10 (dC, dI) [(cI, .int), (cJ, .long), (cB, .byte), (cP, .object RX6), (cQ, .object RX5)] A) (N : Nat) (P : Nat → ql_St) : ∀ (z : ql_V), f_X10_apart_14 N P z = some res → ∀ (H : Heap) (locs : List Loc) (ls : Array Slot), va_P (dC, dI) vwCl ((ql_cw h ad aR adr aG adg aX adx aT kd cI cJ cB cP cQ pad P) z) H → va_D A ((ql_cw h ad aR adr aG adg aX adx aT kd cI cJ cB cP cQ pad P) z) → va_S A s.heap H locs → lv_has ls 3 [(0, .ref h)] → W p l e rm_X10_apart s m args below meth c H locs 0 0 (ql_Ql below (dC, dI) (ql_cw h ad aR adr aG adg aX adx aT kd cI cJ cB cP cQ pad P) A args s res) (F0 m 14 ls []) := by
  have C0q := C0
  obtain ⟨hx, hb, hr, hml, hown, hts, hlocks, hK, hA⟩ := C0q
  have fl115 := hts (Cond.constantLong RX10 115 (-1)) (by decide +kernel)
  intro z hf H locs ls hP hD hS hl
  unfold f_X10_apart_14 at hf
  refine lv_ldc2 hx hb hown fl115 dX10_apart_14 ?_
  exact ql_lret C0 hf hP hD hS dX10_apart_17
set_option maxHeartbeats 4000000 in
set_option maxRecDepth 100000 in
theorem w_X10_apart_0 {p : Program} {l : Launch} {e : Env} {s : State} {m : MethodId} {args : Array Value} {below : List Frame} {meth : Method} {c : Code} {dC : Nat → ClassId} {dI : Nat → Nat → Nat} {A : Nat → Prop} {h : Nat} {ad : Nat → Nat} {aR : Nat} {adr : Nat → Nat} {aG : Nat} {adg : Nat → Nat} {aX : Nat} {adx : Nat → Nat} {aT : Nat} {kd : Nat → Nat} {cI cJ cB cP cQ : ClassId} {pad : Nat → Nat → Nat} {res : Int64 × ql_V} (C0 : ql_C p s m args meth c cX10_apart 3 (some .long) wsX10_apart RX10 (dC, dI) [(cI, .int), (cJ, .long), (cB, .byte), (cP, .object RX6), (cQ, .object RX5)] A) (N : Nat) (P : Nat → ql_St) : ∀ (z : ql_V) (x1 : Int32) (x2 : Int32), f_X10_apart_0 N P z x1 x2 = some res → ∀ (H : Heap) (locs : List Loc) (ls : Array Slot), va_P (dC, dI) vwCl ((ql_cw h ad aR adr aG adg aX adx aT kd cI cJ cB cP cQ pad P) z) H → va_D A ((ql_cw h ad aR adr aG adg aX adx aT kd cI cJ cB cP cQ pad P) z) → va_S A s.heap H locs → lv_has ls 3 [(0, .ref h), (1, .int x1), (2, .int x2)] → W p l e rm_X10_apart s m args below meth c H locs 0 0 (ql_Ql below (dC, dI) (ql_cw h ad aR adr aG adg aX adx aT kd cI cJ cB cP cQ pad P) A args s res) (F0 m 0 ls []) := by
  have C0q := C0
  obtain ⟨hx, hb, hr, hml, hown, hts, hlocks, hK, hA⟩ := C0q
  have fl29 := hts (Cond.fieldLink RX10 29 "TestedLoops" "pairs" "LTestedLoops$Pairs;") (by decide +kernel)
  have fl15 := hts (Cond.fieldLink RX10 15 "TestedLoops" "plans" "[LTestedLoops$Plan;") (by decide +kernel)
  have fl119 := hts (Cond.fieldLink RX10 119 "TestedLoops$Pairs" "foundActs" "I") (by decide +kernel)
  have fl124 := hts (Cond.fieldLink RX10 124 "TestedLoops$Pairs" "foundRow" "J") (by decide +kernel)
  have fl122 := hts (Cond.constantLong RX10 122 (-10)) (by decide +kernel)
  have fl117 := hts (Cond.constantLong RX10 117 (-9)) (by decide +kernel)
  intro z x1 x2 hf H locs ls hP hD hS hl
  unfold f_X10_apart_0 at hf
  refine lv_iload_n hx hb dX10_apart_0 rfl (lv_at hl 1 rfl) ?_
  obtain ⟨u1, hu1, hf⟩ := ql_bd hf
  refine ql_callRSi (As := [.int x1]) (rest := []) C0 (c_X10_isProgram l dC dI N x1 u1 hu1) (va_cwS 1 hts gX10_apart_X10_isProgram rfl rfl rfl qd_X10_isProgram ⟨Nat.le_of_ble_eq_true rfl, Nat.le_of_ble_eq_true rfl⟩) (hK.sub [] rfl) ql_nil hS hl.1 rfl rfl (Nat.le_of_ble_eq_true rfl) dX10_apart_1 (fun H1 locs hk hS => ?_)
  have hP := ql_keep hP hk
  refine lv_if_eq (tgt := 14) hx hb dX10_apart_4 (by decide) (fun c2 => ?_) (fun c2 => ?_)
  · have hf := (if_pos c2).symm.trans hf
    exact w_X10_apart_14 C0 N P _ hf _ _ _ hP hD hS (lv_sub hl [0] rfl)
  · have hf := (if_neg c2).symm.trans hf
    refine lv_iload_n hx hb dX10_apart_7 rfl (lv_at hl 2 rfl) ?_
    obtain ⟨u3, hu3, hf⟩ := ql_bd hf
    refine ql_callRSi (As := [.int x2]) (rest := []) C0 (c_X10_isProgram l dC dI N x2 u3 hu3) (va_cwS 1 hts gX10_apart_X10_isProgram rfl rfl rfl qd_X10_isProgram ⟨Nat.le_of_ble_eq_true rfl, Nat.le_of_ble_eq_true rfl⟩) (hK.sub [] rfl) ql_nil hS hl.1 rfl rfl (Nat.le_of_ble_eq_true rfl) dX10_apart_8 (fun H1 locs hk hS => ?_)
    have hP := ql_keep hP hk
    refine lv_if_ne (tgt := 18) hx hb dX10_apart_11 (by decide) (fun c4 => ?_) (fun c4 => ?_)
    · have hf := (if_neg c4).symm.trans hf
      refine lv_aload_n hx hb dX10_apart_18 rfl (lv_at hl 0 rfl) ?_
      refine va_get (D := (dC, dI)) (ci := 10) (v := .ref aX) (C := RX10) (T := TX10) (N := 13) hx hb hts iw_X10_apart_X10 hown hK.1 hP 0 rfl rfl 4 (by decide) fl29 (fun _ h9 => h9) rfl dX10_apart_19 ?_
      refine lv_aload_n hx hb dX10_apart_22 rfl (lv_at hl 0 rfl) ?_
      refine va_get (D := (dC, dI)) (ci := 10) (v := .ref (ad 2)) (C := RX10) (T := TX10) (N := 13) hx hb hts iw_X10_apart_X10 hown hK.1 hP 0 rfl rfl 2 (by decide) fl15 (fun _ h9 => h9) rfl dX10_apart_23 ?_
      refine lv_iload_n hx hb dX10_apart_26 rfl (lv_at hl 1 rfl) ?_
      have g0 := ql_in (ql_gt hf)
      have hf := ql_gx hf
      have gp5 := ql_lt g0
      refine va_aldq (f := ql_pf pad) hx hb hK.1 hP 2 3 rfl rfl g0 dX10_apart_27 ?_
      refine W.eq (g2 := F0 m 28 ls [.ref (pad x1.toNatClampNeg 100), .ref aX]) (by rw [ql_pfv gp5]) ?_
      refine lv_aload_n hx hb dX10_apart_28 rfl (lv_at hl 0 rfl) ?_
      refine va_get (D := (dC, dI)) (ci := 10) (v := .ref (ad 2)) (C := RX10) (T := TX10) (N := 13) hx hb hts iw_X10_apart_X10 hown hK.1 hP 0 rfl rfl 2 (by decide) fl15 (fun _ h9 => h9) rfl dX10_apart_29 ?_
      refine lv_iload_n hx hb dX10_apart_32 rfl (lv_at hl 2 rfl) ?_
      have g0 := ql_in (ql_gt hf)
      have hf := ql_gx hf
      have gp6 := ql_lt g0
      refine va_aldq (f := ql_pf pad) hx hb hK.1 hP 2 3 rfl rfl g0 dX10_apart_33 ?_
      refine W.eq (g2 := F0 m 34 ls [.ref (pad x2.toNatClampNeg 100), .ref (pad x1.toNatClampNeg 100), .ref aX]) (by rw [ql_pfv gp6]) ?_
      refine lv_iconst (v := 1) hx hb dX10_apart_34 (by decide) ?_
      obtain ⟨u7, hu7, hf⟩ := ql_bd hf
      refine ql_subVi (wr := ql_cm h ad aR aG aX aT kd cI cJ cB cP cQ pad z.1 z.2.1 ++ (ql_rc aR adr (pad 4 100) cI z.2.2.1 ++ ql_gc aG adg cI z.2.2.2.1)) (As := [.ref (pad x1.toNatClampNeg 100), .ref (pad x2.toNatClampNeg 100), .int 1]) (rest := []) C0 (c_X4_findRow l dC dI aX adx cI cJ pad N P (z.2.2.2.2.1, z.2.2.2.2.2) x1.toNatClampNeg x2.toNatClampNeg 1 (Nat.lt_of_lt_of_le gp5 (by decide)) (Nat.lt_of_lt_of_le gp6 (by decide)) u7 hu7) (cwV 3 hts gX10_apart_X4_findRow rfl rfl rfl qv_X4_findRow ⟨Nat.le_of_ble_eq_true rfl, Nat.le_of_ble_eq_true rfl⟩) (hK.sub [0, 1] rfl) [19, 20, 21, 22, 23, 24, 25, 26, 27, 28, 29, 30, 31, 32, 33, 34, 35, 36, 37, 38, 39, 40, 41, 42, 43, 44, 45, 46, 47, 48, 49, 50, 51, 52, 53, 54, 55, 56, 57, 58, 59, 60, 61, 62, 63, 64] [0, 1, 2, 3, 4, 5, 6, 7, 8, 9, 10, 11, 12, 13, 14, 15, 16, 17, 18] rfl rfl rfl rfl (by decide) (va_recv hK.1 hP (ci := 4) (q0 := 19) rfl rfl) hP hD hS hl.1 rfl rfl (Nat.le_of_ble_eq_true rfl) dX10_apart_35 (fun H locs hP hD hS => ?_)
      have hP : va_P (dC, dI) vwCl ((ql_cw h ad aR adr aG adg aX adx aT kd cI cJ cB cP cQ pad P) (z.1, z.2.1, z.2.2.1, z.2.2.2.1, u7.2.1, u7.2.2)) _ := hP
      have hD : va_D A ((ql_cw h ad aR adr aG adg aX adx aT kd cI cJ cB cP cQ pad P) (z.1, z.2.1, z.2.2.1, z.2.2.2.1, u7.2.1, u7.2.2)) := hD
      refine lv_if_ne (tgt := 45) hx hb dX10_apart_38 (by decide) (fun c8 => ?_) (fun c8 => ?_)
      · have hf := (if_neg c8).symm.trans hf
        refine lv_aload_n hx hb dX10_apart_45 rfl (lv_at hl 0 rfl) ?_
        refine va_get (D := (dC, dI)) (ci := 10) (v := .ref aX) (C := RX10) (T := TX10) (N := 13) hx hb hts iw_X10_apart_X10 hown hK.1 hP 0 rfl rfl 4 (by decide) fl29 (fun _ h9 => h9) rfl dX10_apart_46 ?_
        refine va_get (D := (dC, dI)) (ci := 4) (v := .int (u7.2.1 6 0)) (C := RX4) (T := TX4) (N := 8) hx hb hts iw_X10_apart_X4 hown hK.1 hP 19 rfl rfl 6 (by decide) fl119 (fun _ h9 => h9) rfl dX10_apart_49 ?_
        refine lv_bipush (v := 16) hx hb dX10_apart_52 (by decide) ?_
        refine lv_icmp_le (tgt := 63) hx hb dX10_apart_54 (by decide) (fun c9 => ?_) (fun c9 => ?_)
        · have hf := (if_pos c9).symm.trans hf
          refine lv_aload_n hx hb dX10_apart_63 rfl (lv_at hl 0 rfl) ?_
          refine va_get (D := (dC, dI)) (ci := 10) (v := .ref aX) (C := RX10) (T := TX10) (N := 13) hx hb hts iw_X10_apart_X10 hown hK.1 hP 0 rfl rfl 4 (by decide) fl29 (fun _ h9 => h9) rfl dX10_apart_64 ?_
          refine va_get (D := (dC, dI)) (ci := 4) (v := .long (u7.2.2 7 0)) (C := RX4) (T := TX4) (N := 8) hx hb hts iw_X10_apart_X4 hown hK.1 hP 19 rfl rfl 7 (by decide) fl124 (fun _ h9 => h9) rfl dX10_apart_67 ?_
          exact ql_lret C0 hf hP hD hS dX10_apart_70
        · have hf := (if_neg c9).symm.trans hf
          refine lv_ldc2 hx hb hown fl122 dX10_apart_57 ?_
          refine lv_goto (tgt := 70) hx hb dX10_apart_60 (by decide) ?_
          exact ql_lret C0 hf hP hD hS dX10_apart_70
      · have hf := (if_pos c8).symm.trans hf
        refine lv_ldc2 hx hb hown fl117 dX10_apart_41 ?_
        exact ql_lret C0 hf hP hD hS dX10_apart_44
    · have hf := (if_pos c4).symm.trans hf
      exact w_X10_apart_14 C0 N P _ hf _ _ _ hP hD hS (lv_sub hl [0] rfl)
set_option maxRecDepth 100000 in
theorem c_X10_apart (l : Launch) (dC : Nat → ClassId) (dI : Nat → Nat → Nat) (h : Nat) (ad : Nat → Nat) (aR : Nat) (adr : Nat → Nat) (aG : Nat) (adg : Nat → Nat) (aX : Nat) (adx : Nat → Nat) (aT : Nat) (kd : Nat → Nat) (cI cJ cB cP cQ : ClassId) (pad : Nat → Nat → Nat) (N : Nat) (P : Nat → ql_St) (z : ql_V) (x1 : Int32) (x2 : Int32) (res : Int64 × ql_V) (hf : f_X10_apart N P z x1 x2 = some res) : ql_Ml l yX10_apart wsX10_apart rm_X10_apart (dC, dI) [(cI, .int), (cJ, .long), (cB, .byte), (cP, .object RX6), (cQ, .object RX5)] (ql_cw h ad aR adr aG adg aX adx aT kd cI cJ cB cP cQ pad P) [.ref h, .int x1, .int x2] z res :=
  ql_start_l (by decide) rfl (Nat.le_of_ble_eq_true rfl) (fun p e s m below meth c A ls C0 hl hP hD hS => w_X10_apart_0 C0 N P z x1 x2 hf s.heap [] ls hP hD hS (lv_sub (show lv_has ls 3 [(0, .ref h), (1, .int x1), (2, .int x2)] from hl) [0, 1, 2] rfl))
/-! ===== TestedLoops.far(II)I ===== -/
abbrev rm_X10_far : Room := { frames := 5, cells := 0, slots := 0, locals := 122 }
theorem iw_X10_far_X10 : ∀ w ∈ wsX100, w ∈ wsX10_far := fun w h => List.mem_cons_of_mem _ (List.mem_append_left _ (List.mem_append_left _ (List.mem_append_right _ h)))
theorem iw_X10_far_X4 : ∀ w ∈ wsX40, w ∈ wsX10_far := fun w h => List.mem_cons_of_mem _ (List.mem_append_left _ (List.mem_append_right _ h))
theorem iw_X10_far_X6 : ∀ w ∈ wsX60, w ∈ wsX10_far := fun w h => List.mem_cons_of_mem _ (List.mem_append_right _ h)
theorem qv_X10_far : yX10_far.cls = RX10 ∧ yX10_far.cls ≠ "java/lang/invoke/MethodHandle" ∧ yX10_far.cls ≠ "java/lang/invoke/VarHandle" ∧ (parseMethodDescriptor yX10_far.desc).map (fun d => d.parameters.length) = some 2 := by decide +kernel
def f_X10_far_0 (N : Nat) (P : Nat → ql_St) (z : ql_V) (x1 : Int32) (x2 : Int32) : Option (Int32 × ql_V) := (f_X10_isProgram N x1).bind fun u1 => if u1 = 0 then some ((-1), z) else (f_X10_isProgram N x2).bind fun u3 => if u3 = 0 then some ((-1), z) else if ql_ib x1 4 = true then if ql_ib x2 4 = true then (f_X4_findRow N P (z.2.2.2.2.1, z.2.2.2.2.2) x1.toNatClampNeg x2.toNatClampNeg 1).bind fun u7 => if u7.1 = 0 then some ((-9), (z.1, z.2.1, z.2.2.1, z.2.2.2.1, u7.2.1, u7.2.2)) else some ((u7.2.1 6 0), (z.1, z.2.1, z.2.2.1, z.2.2.2.1, u7.2.1, u7.2.2)) else none else none
def f_X10_far (N : Nat) (P : Nat → ql_St) (z : ql_V) (x1 : Int32) (x2 : Int32) : Option (Int32 × ql_V) := f_X10_far_0 N P z x1 x2
set_option maxHeartbeats 4000000 in
set_option maxRecDepth 100000 in
theorem w_X10_far_0 {p : Program} {l : Launch} {e : Env} {s : State} {m : MethodId} {args : Array Value} {below : List Frame} {meth : Method} {c : Code} {dC : Nat → ClassId} {dI : Nat → Nat → Nat} {A : Nat → Prop} {h : Nat} {ad : Nat → Nat} {aR : Nat} {adr : Nat → Nat} {aG : Nat} {adg : Nat → Nat} {aX : Nat} {adx : Nat → Nat} {aT : Nat} {kd : Nat → Nat} {cI cJ cB cP cQ : ClassId} {pad : Nat → Nat → Nat} {res : Int32 × ql_V} (C0 : ql_C p s m args meth c cX10_far 3 (some .int) wsX10_far RX10 (dC, dI) [(cI, .int), (cJ, .long), (cB, .byte), (cP, .object RX6), (cQ, .object RX5)] A) (N : Nat) (P : Nat → ql_St) : ∀ (z : ql_V) (x1 : Int32) (x2 : Int32), f_X10_far_0 N P z x1 x2 = some res → ∀ (H : Heap) (locs : List Loc) (ls : Array Slot), va_P (dC, dI) vwCl ((ql_cw h ad aR adr aG adg aX adx aT kd cI cJ cB cP cQ pad P) z) H → va_D A ((ql_cw h ad aR adr aG adg aX adx aT kd cI cJ cB cP cQ pad P) z) → va_S A s.heap H locs → lv_has ls 3 [(0, .ref h), (1, .int x1), (2, .int x2)] → W p l e rm_X10_far s m args below meth c H locs 0 0 (ql_Qi below (dC, dI) (ql_cw h ad aR adr aG adg aX adx aT kd cI cJ cB cP cQ pad P) A args s res) (F0 m 0 ls []) := by
  have C0q := C0
  obtain ⟨hx, hb, hr, hml, hown, hts, hlocks, hK, hA⟩ := C0q
  have fl29 := hts (Cond.fieldLink RX10 29 "TestedLoops" "pairs" "LTestedLoops$Pairs;") (by decide +kernel)
  have fl15 := hts (Cond.fieldLink RX10 15 "TestedLoops" "plans" "[LTestedLoops$Plan;") (by decide +kernel)
  have fl119 := hts (Cond.fieldLink RX10 119 "TestedLoops$Pairs" "foundActs" "I") (by decide +kernel)
  intro z x1 x2 hf H locs ls hP hD hS hl
  unfold f_X10_far_0 at hf
  refine lv_iload_n hx hb dX10_far_0 rfl (lv_at hl 1 rfl) ?_
  obtain ⟨u1, hu1, hf⟩ := ql_bd hf
  refine ql_callRSi (As := [.int x1]) (rest := []) C0 (c_X10_isProgram l dC dI N x1 u1 hu1) (va_cwS 1 hts gX10_far_X10_isProgram rfl rfl rfl qd_X10_isProgram ⟨Nat.le_of_ble_eq_true rfl, Nat.le_of_ble_eq_true rfl⟩) (hK.sub [] rfl) ql_nil hS hl.1 rfl rfl (Nat.le_of_ble_eq_true rfl) dX10_far_1 (fun H1 locs hk hS => ?_)
  have hP := ql_keep hP hk
  refine lv_if_eq (tgt := 14) hx hb dX10_far_4 (by decide) (fun c2 => ?_) (fun c2 => ?_)
  · have hf := (if_pos c2).symm.trans hf
    refine lv_iconst (v := (-1)) hx hb dX10_far_14 (by decide) ?_
    exact ql_iret C0 hf hP hD hS dX10_far_15
  · have hf := (if_neg c2).symm.trans hf
    refine lv_iload_n hx hb dX10_far_7 rfl (lv_at hl 2 rfl) ?_
    obtain ⟨u3, hu3, hf⟩ := ql_bd hf
    refine ql_callRSi (As := [.int x2]) (rest := []) C0 (c_X10_isProgram l dC dI N x2 u3 hu3) (va_cwS 1 hts gX10_far_X10_isProgram rfl rfl rfl qd_X10_isProgram ⟨Nat.le_of_ble_eq_true rfl, Nat.le_of_ble_eq_true rfl⟩) (hK.sub [] rfl) ql_nil hS hl.1 rfl rfl (Nat.le_of_ble_eq_true rfl) dX10_far_8 (fun H1 locs hk hS => ?_)
    have hP := ql_keep hP hk
    refine lv_if_ne (tgt := 16) hx hb dX10_far_11 (by decide) (fun c4 => ?_) (fun c4 => ?_)
    · have hf := (if_neg c4).symm.trans hf
      refine lv_aload_n hx hb dX10_far_16 rfl (lv_at hl 0 rfl) ?_
      refine va_get (D := (dC, dI)) (ci := 10) (v := .ref aX) (C := RX10) (T := TX10) (N := 13) hx hb hts iw_X10_far_X10 hown hK.1 hP 0 rfl rfl 4 (by decide) fl29 (fun _ h9 => h9) rfl dX10_far_17 ?_
      refine lv_aload_n hx hb dX10_far_20 rfl (lv_at hl 0 rfl) ?_
      refine va_get (D := (dC, dI)) (ci := 10) (v := .ref (ad 2)) (C := RX10) (T := TX10) (N := 13) hx hb hts iw_X10_far_X10 hown hK.1 hP 0 rfl rfl 2 (by decide) fl15 (fun _ h9 => h9) rfl dX10_far_21 ?_
      refine lv_iload_n hx hb dX10_far_24 rfl (lv_at hl 1 rfl) ?_
      have g0 := ql_in (ql_gt hf)
      have hf := ql_gx hf
      have gp5 := ql_lt g0
      refine va_aldq (f := ql_pf pad) hx hb hK.1 hP 2 3 rfl rfl g0 dX10_far_25 ?_
      refine W.eq (g2 := F0 m 26 ls [.ref (pad x1.toNatClampNeg 100), .ref aX]) (by rw [ql_pfv gp5]) ?_
      refine lv_aload_n hx hb dX10_far_26 rfl (lv_at hl 0 rfl) ?_
      refine va_get (D := (dC, dI)) (ci := 10) (v := .ref (ad 2)) (C := RX10) (T := TX10) (N := 13) hx hb hts iw_X10_far_X10 hown hK.1 hP 0 rfl rfl 2 (by decide) fl15 (fun _ h9 => h9) rfl dX10_far_27 ?_
      refine lv_iload_n hx hb dX10_far_30 rfl (lv_at hl 2 rfl) ?_
      have g0 := ql_in (ql_gt hf)
      have hf := ql_gx hf
      have gp6 := ql_lt g0
      refine va_aldq (f := ql_pf pad) hx hb hK.1 hP 2 3 rfl rfl g0 dX10_far_31 ?_
      refine W.eq (g2 := F0 m 32 ls [.ref (pad x2.toNatClampNeg 100), .ref (pad x1.toNatClampNeg 100), .ref aX]) (by rw [ql_pfv gp6]) ?_
      refine lv_iconst (v := 1) hx hb dX10_far_32 (by decide) ?_
      obtain ⟨u7, hu7, hf⟩ := ql_bd hf
      refine ql_subVi (wr := ql_cm h ad aR aG aX aT kd cI cJ cB cP cQ pad z.1 z.2.1 ++ (ql_rc aR adr (pad 4 100) cI z.2.2.1 ++ ql_gc aG adg cI z.2.2.2.1)) (As := [.ref (pad x1.toNatClampNeg 100), .ref (pad x2.toNatClampNeg 100), .int 1]) (rest := []) C0 (c_X4_findRow l dC dI aX adx cI cJ pad N P (z.2.2.2.2.1, z.2.2.2.2.2) x1.toNatClampNeg x2.toNatClampNeg 1 (Nat.lt_of_lt_of_le gp5 (by decide)) (Nat.lt_of_lt_of_le gp6 (by decide)) u7 hu7) (cwV 3 hts gX10_far_X4_findRow rfl rfl rfl qv_X4_findRow ⟨Nat.le_of_ble_eq_true rfl, Nat.le_of_ble_eq_true rfl⟩) (hK.sub [0, 1] rfl) [19, 20, 21, 22, 23, 24, 25, 26, 27, 28, 29, 30, 31, 32, 33, 34, 35, 36, 37, 38, 39, 40, 41, 42, 43, 44, 45, 46, 47, 48, 49, 50, 51, 52, 53, 54, 55, 56, 57, 58, 59, 60, 61, 62, 63, 64] [0, 1, 2, 3, 4, 5, 6, 7, 8, 9, 10, 11, 12, 13, 14, 15, 16, 17, 18] rfl rfl rfl rfl (by decide) (va_recv hK.1 hP (ci := 4) (q0 := 19) rfl rfl) hP hD hS hl.1 rfl rfl (Nat.le_of_ble_eq_true rfl) dX10_far_33 (fun H locs hP hD hS => ?_)
      have hP : va_P (dC, dI) vwCl ((ql_cw h ad aR adr aG adg aX adx aT kd cI cJ cB cP cQ pad P) (z.1, z.2.1, z.2.2.1, z.2.2.2.1, u7.2.1, u7.2.2)) _ := hP
      have hD : va_D A ((ql_cw h ad aR adr aG adg aX adx aT kd cI cJ cB cP cQ pad P) (z.1, z.2.1, z.2.2.1, z.2.2.2.1, u7.2.1, u7.2.2)) := hD
      refine lv_if_eq (tgt := 49) hx hb dX10_far_36 (by decide) (fun c8 => ?_) (fun c8 => ?_)
      · have hf := (if_pos c8).symm.trans hf
        refine lv_bipush (v := (-9)) hx hb dX10_far_49 (by decide) ?_
        exact ql_iret C0 hf hP hD hS dX10_far_51
      · have hf := (if_neg c8).symm.trans hf
        refine lv_aload_n hx hb dX10_far_39 rfl (lv_at hl 0 rfl) ?_
        refine va_get (D := (dC, dI)) (ci := 10) (v := .ref aX) (C := RX10) (T := TX10) (N := 13) hx hb hts iw_X10_far_X10 hown hK.1 hP 0 rfl rfl 4 (by decide) fl29 (fun _ h9 => h9) rfl dX10_far_40 ?_
        refine va_get (D := (dC, dI)) (ci := 4) (v := .int (u7.2.1 6 0)) (C := RX4) (T := TX4) (N := 8) hx hb hts iw_X10_far_X4 hown hK.1 hP 19 rfl rfl 6 (by decide) fl119 (fun _ h9 => h9) rfl dX10_far_43 ?_
        refine lv_goto (tgt := 51) hx hb dX10_far_46 (by decide) ?_
        exact ql_iret C0 hf hP hD hS dX10_far_51
    · have hf := (if_pos c4).symm.trans hf
      refine lv_iconst (v := (-1)) hx hb dX10_far_14 (by decide) ?_
      exact ql_iret C0 hf hP hD hS dX10_far_15
set_option maxRecDepth 100000 in
theorem c_X10_far (l : Launch) (dC : Nat → ClassId) (dI : Nat → Nat → Nat) (h : Nat) (ad : Nat → Nat) (aR : Nat) (adr : Nat → Nat) (aG : Nat) (adg : Nat → Nat) (aX : Nat) (adx : Nat → Nat) (aT : Nat) (kd : Nat → Nat) (cI cJ cB cP cQ : ClassId) (pad : Nat → Nat → Nat) (N : Nat) (P : Nat → ql_St) (z : ql_V) (x1 : Int32) (x2 : Int32) (res : Int32 × ql_V) (hf : f_X10_far N P z x1 x2 = some res) : ql_Mi l yX10_far wsX10_far rm_X10_far (dC, dI) [(cI, .int), (cJ, .long), (cB, .byte), (cP, .object RX6), (cQ, .object RX5)] (ql_cw h ad aR adr aG adg aX adx aT kd cI cJ cB cP cQ pad P) [.ref h, .int x1, .int x2] z res :=
  ql_start_i (by decide) rfl (Nat.le_of_ble_eq_true rfl) (fun p e s m below meth c A ls C0 hl hP hD hS => w_X10_far_0 C0 N P z x1 x2 hf s.heap [] ls hP hD hS (lv_sub (show lv_has ls 3 [(0, .ref h), (1, .int x1), (2, .int x2)] from hl) [0, 1, 2] rfl))
/-! ===== TestedLoops.within(II)I ===== -/
abbrev rm_X10_within : Room := { frames := 5, cells := 0, slots := 0, locals := 122 }
theorem iw_X10_within_X10 : ∀ w ∈ wsX100, w ∈ wsX10_within := fun w h => List.mem_cons_of_mem _ (List.mem_append_left _ (List.mem_append_left _ (List.mem_append_right _ h)))
theorem iw_X10_within_X4 : ∀ w ∈ wsX40, w ∈ wsX10_within := fun w h => List.mem_cons_of_mem _ (List.mem_append_left _ (List.mem_append_right _ h))
theorem iw_X10_within_X6 : ∀ w ∈ wsX60, w ∈ wsX10_within := fun w h => List.mem_cons_of_mem _ (List.mem_append_right _ h)
theorem qv_X10_within : yX10_within.cls = RX10 ∧ yX10_within.cls ≠ "java/lang/invoke/MethodHandle" ∧ yX10_within.cls ≠ "java/lang/invoke/VarHandle" ∧ (parseMethodDescriptor yX10_within.desc).map (fun d => d.parameters.length) = some 2 := by decide +kernel
def f_X10_within_0 (N : Nat) (P : Nat → ql_St) (z : ql_V) (x1 : Int32) (x2 : Int32) : Option (Int32 × ql_V) := (f_X10_isProgram N x1).bind fun u1 => if u1 = 0 then some ((-1), z) else (f_X10_isProgram N x2).bind fun u3 => if u3 = 0 then some ((-1), z) else if ql_ib x1 4 = true then if ql_ib x2 4 = true then (f_X4_findRow N P (z.2.2.2.2.1, z.2.2.2.2.2) x1.toNatClampNeg x2.toNatClampNeg 0).bind fun u7 => if u7.1 = 0 then some (1, (z.1, z.2.1, z.2.2.1, z.2.2.2.1, u7.2.1, u7.2.2)) else some (0, (z.1, z.2.1, z.2.2.1, z.2.2.2.1, u7.2.1, u7.2.2)) else none else none
def f_X10_within (N : Nat) (P : Nat → ql_St) (z : ql_V) (x1 : Int32) (x2 : Int32) : Option (Int32 × ql_V) := f_X10_within_0 N P z x1 x2
set_option maxHeartbeats 4000000 in
set_option maxRecDepth 100000 in
theorem w_X10_within_0 {p : Program} {l : Launch} {e : Env} {s : State} {m : MethodId} {args : Array Value} {below : List Frame} {meth : Method} {c : Code} {dC : Nat → ClassId} {dI : Nat → Nat → Nat} {A : Nat → Prop} {h : Nat} {ad : Nat → Nat} {aR : Nat} {adr : Nat → Nat} {aG : Nat} {adg : Nat → Nat} {aX : Nat} {adx : Nat → Nat} {aT : Nat} {kd : Nat → Nat} {cI cJ cB cP cQ : ClassId} {pad : Nat → Nat → Nat} {res : Int32 × ql_V} (C0 : ql_C p s m args meth c cX10_within 3 (some .int) wsX10_within RX10 (dC, dI) [(cI, .int), (cJ, .long), (cB, .byte), (cP, .object RX6), (cQ, .object RX5)] A) (N : Nat) (P : Nat → ql_St) : ∀ (z : ql_V) (x1 : Int32) (x2 : Int32), f_X10_within_0 N P z x1 x2 = some res → ∀ (H : Heap) (locs : List Loc) (ls : Array Slot), va_P (dC, dI) vwCl ((ql_cw h ad aR adr aG adg aX adx aT kd cI cJ cB cP cQ pad P) z) H → va_D A ((ql_cw h ad aR adr aG adg aX adx aT kd cI cJ cB cP cQ pad P) z) → va_S A s.heap H locs → lv_has ls 3 [(0, .ref h), (1, .int x1), (2, .int x2)] → W p l e rm_X10_within s m args below meth c H locs 0 0 (ql_Qi below (dC, dI) (ql_cw h ad aR adr aG adg aX adx aT kd cI cJ cB cP cQ pad P) A args s res) (F0 m 0 ls []) := by
  have C0q := C0
  obtain ⟨hx, hb, hr, hml, hown, hts, hlocks, hK, hA⟩ := C0q
  have fl29 := hts (Cond.fieldLink RX10 29 "TestedLoops" "pairs" "LTestedLoops$Pairs;") (by decide +kernel)
  have fl15 := hts (Cond.fieldLink RX10 15 "TestedLoops" "plans" "[LTestedLoops$Plan;") (by decide +kernel)
  intro z x1 x2 hf H locs ls hP hD hS hl
  unfold f_X10_within_0 at hf
  refine lv_iload_n hx hb dX10_within_0 rfl (lv_at hl 1 rfl) ?_
  obtain ⟨u1, hu1, hf⟩ := ql_bd hf
  refine ql_callRSi (As := [.int x1]) (rest := []) C0 (c_X10_isProgram l dC dI N x1 u1 hu1) (va_cwS 1 hts gX10_within_X10_isProgram rfl rfl rfl qd_X10_isProgram ⟨Nat.le_of_ble_eq_true rfl, Nat.le_of_ble_eq_true rfl⟩) (hK.sub [] rfl) ql_nil hS hl.1 rfl rfl (Nat.le_of_ble_eq_true rfl) dX10_within_1 (fun H1 locs hk hS => ?_)
  have hP := ql_keep hP hk
  refine lv_if_eq (tgt := 14) hx hb dX10_within_4 (by decide) (fun c2 => ?_) (fun c2 => ?_)
  · have hf := (if_pos c2).symm.trans hf
    refine lv_iconst (v := (-1)) hx hb dX10_within_14 (by decide) ?_
    exact ql_iret C0 hf hP hD hS dX10_within_15
  · have hf := (if_neg c2).symm.trans hf
    refine lv_iload_n hx hb dX10_within_7 rfl (lv_at hl 2 rfl) ?_
    obtain ⟨u3, hu3, hf⟩ := ql_bd hf
    refine ql_callRSi (As := [.int x2]) (rest := []) C0 (c_X10_isProgram l dC dI N x2 u3 hu3) (va_cwS 1 hts gX10_within_X10_isProgram rfl rfl rfl qd_X10_isProgram ⟨Nat.le_of_ble_eq_true rfl, Nat.le_of_ble_eq_true rfl⟩) (hK.sub [] rfl) ql_nil hS hl.1 rfl rfl (Nat.le_of_ble_eq_true rfl) dX10_within_8 (fun H1 locs hk hS => ?_)
    have hP := ql_keep hP hk
    refine lv_if_ne (tgt := 16) hx hb dX10_within_11 (by decide) (fun c4 => ?_) (fun c4 => ?_)
    · have hf := (if_neg c4).symm.trans hf
      refine lv_aload_n hx hb dX10_within_16 rfl (lv_at hl 0 rfl) ?_
      refine va_get (D := (dC, dI)) (ci := 10) (v := .ref aX) (C := RX10) (T := TX10) (N := 13) hx hb hts iw_X10_within_X10 hown hK.1 hP 0 rfl rfl 4 (by decide) fl29 (fun _ h9 => h9) rfl dX10_within_17 ?_
      refine lv_aload_n hx hb dX10_within_20 rfl (lv_at hl 0 rfl) ?_
      refine va_get (D := (dC, dI)) (ci := 10) (v := .ref (ad 2)) (C := RX10) (T := TX10) (N := 13) hx hb hts iw_X10_within_X10 hown hK.1 hP 0 rfl rfl 2 (by decide) fl15 (fun _ h9 => h9) rfl dX10_within_21 ?_
      refine lv_iload_n hx hb dX10_within_24 rfl (lv_at hl 1 rfl) ?_
      have g0 := ql_in (ql_gt hf)
      have hf := ql_gx hf
      have gp5 := ql_lt g0
      refine va_aldq (f := ql_pf pad) hx hb hK.1 hP 2 3 rfl rfl g0 dX10_within_25 ?_
      refine W.eq (g2 := F0 m 26 ls [.ref (pad x1.toNatClampNeg 100), .ref aX]) (by rw [ql_pfv gp5]) ?_
      refine lv_aload_n hx hb dX10_within_26 rfl (lv_at hl 0 rfl) ?_
      refine va_get (D := (dC, dI)) (ci := 10) (v := .ref (ad 2)) (C := RX10) (T := TX10) (N := 13) hx hb hts iw_X10_within_X10 hown hK.1 hP 0 rfl rfl 2 (by decide) fl15 (fun _ h9 => h9) rfl dX10_within_27 ?_
      refine lv_iload_n hx hb dX10_within_30 rfl (lv_at hl 2 rfl) ?_
      have g0 := ql_in (ql_gt hf)
      have hf := ql_gx hf
      have gp6 := ql_lt g0
      refine va_aldq (f := ql_pf pad) hx hb hK.1 hP 2 3 rfl rfl g0 dX10_within_31 ?_
      refine W.eq (g2 := F0 m 32 ls [.ref (pad x2.toNatClampNeg 100), .ref (pad x1.toNatClampNeg 100), .ref aX]) (by rw [ql_pfv gp6]) ?_
      refine lv_iconst (v := 0) hx hb dX10_within_32 (by decide) ?_
      obtain ⟨u7, hu7, hf⟩ := ql_bd hf
      refine ql_subVi (wr := ql_cm h ad aR aG aX aT kd cI cJ cB cP cQ pad z.1 z.2.1 ++ (ql_rc aR adr (pad 4 100) cI z.2.2.1 ++ ql_gc aG adg cI z.2.2.2.1)) (As := [.ref (pad x1.toNatClampNeg 100), .ref (pad x2.toNatClampNeg 100), .int 0]) (rest := []) C0 (c_X4_findRow l dC dI aX adx cI cJ pad N P (z.2.2.2.2.1, z.2.2.2.2.2) x1.toNatClampNeg x2.toNatClampNeg 0 (Nat.lt_of_lt_of_le gp5 (by decide)) (Nat.lt_of_lt_of_le gp6 (by decide)) u7 hu7) (cwV 3 hts gX10_within_X4_findRow rfl rfl rfl qv_X4_findRow ⟨Nat.le_of_ble_eq_true rfl, Nat.le_of_ble_eq_true rfl⟩) (hK.sub [0, 1] rfl) [19, 20, 21, 22, 23, 24, 25, 26, 27, 28, 29, 30, 31, 32, 33, 34, 35, 36, 37, 38, 39, 40, 41, 42, 43, 44, 45, 46, 47, 48, 49, 50, 51, 52, 53, 54, 55, 56, 57, 58, 59, 60, 61, 62, 63, 64] [0, 1, 2, 3, 4, 5, 6, 7, 8, 9, 10, 11, 12, 13, 14, 15, 16, 17, 18] rfl rfl rfl rfl (by decide) (va_recv hK.1 hP (ci := 4) (q0 := 19) rfl rfl) hP hD hS hl.1 rfl rfl (Nat.le_of_ble_eq_true rfl) dX10_within_33 (fun H locs hP hD hS => ?_)
      have hP : va_P (dC, dI) vwCl ((ql_cw h ad aR adr aG adg aX adx aT kd cI cJ cB cP cQ pad P) (z.1, z.2.1, z.2.2.1, z.2.2.2.1, u7.2.1, u7.2.2)) _ := hP
      have hD : va_D A ((ql_cw h ad aR adr aG adg aX adx aT kd cI cJ cB cP cQ pad P) (z.1, z.2.1, z.2.2.1, z.2.2.2.1, u7.2.1, u7.2.2)) := hD
      refine lv_if_eq (tgt := 43) hx hb dX10_within_36 (by decide) (fun c8 => ?_) (fun c8 => ?_)
      · have hf := (if_pos c8).symm.trans hf
        refine lv_iconst (v := 1) hx hb dX10_within_43 (by decide) ?_
        exact ql_iret C0 hf hP hD hS dX10_within_44
      · have hf := (if_neg c8).symm.trans hf
        refine lv_iconst (v := 0) hx hb dX10_within_39 (by decide) ?_
        refine lv_goto (tgt := 44) hx hb dX10_within_40 (by decide) ?_
        exact ql_iret C0 hf hP hD hS dX10_within_44
    · have hf := (if_pos c4).symm.trans hf
      refine lv_iconst (v := (-1)) hx hb dX10_within_14 (by decide) ?_
      exact ql_iret C0 hf hP hD hS dX10_within_15
set_option maxRecDepth 100000 in
theorem c_X10_within (l : Launch) (dC : Nat → ClassId) (dI : Nat → Nat → Nat) (h : Nat) (ad : Nat → Nat) (aR : Nat) (adr : Nat → Nat) (aG : Nat) (adg : Nat → Nat) (aX : Nat) (adx : Nat → Nat) (aT : Nat) (kd : Nat → Nat) (cI cJ cB cP cQ : ClassId) (pad : Nat → Nat → Nat) (N : Nat) (P : Nat → ql_St) (z : ql_V) (x1 : Int32) (x2 : Int32) (res : Int32 × ql_V) (hf : f_X10_within N P z x1 x2 = some res) : ql_Mi l yX10_within wsX10_within rm_X10_within (dC, dI) [(cI, .int), (cJ, .long), (cB, .byte), (cP, .object RX6), (cQ, .object RX5)] (ql_cw h ad aR adr aG adg aX adx aT kd cI cJ cB cP cQ pad P) [.ref h, .int x1, .int x2] z res :=
  ql_start_i (by decide) rfl (Nat.le_of_ble_eq_true rfl) (fun p e s m below meth c A ls C0 hl hP hD hS => w_X10_within_0 C0 N P z x1 x2 hf s.heap [] ls hP hD hS (lv_sub (show lv_has ls 3 [(0, .ref h), (1, .int x1), (2, .int x2)] from hl) [0, 1, 2] rfl))
/-! ===== TestedLoops.fewest(I)I ===== -/
abbrev rm_X10_fewest : Room := { frames := 7, cells := 0, slots := 0, locals := 161 }
theorem iw_X10_fewest_X10 : ∀ w ∈ wsX100, w ∈ wsX10_fewest := fun w h => List.mem_cons_of_mem _ (List.mem_append_left _ (List.mem_append_left _ (List.mem_append_right _ h)))
theorem iw_X10_fewest_X6 : ∀ w ∈ wsX60, w ∈ wsX10_fewest := fun w h => List.mem_cons_of_mem _ (List.mem_append_left _ (List.mem_append_right _ h))
theorem iw_X10_fewest_X2 : ∀ w ∈ wsX20, w ∈ wsX10_fewest := fun w h => List.mem_cons_of_mem _ (List.mem_append_right _ h)
theorem qv_X10_fewest : yX10_fewest.cls = RX10 ∧ yX10_fewest.cls ≠ "java/lang/invoke/MethodHandle" ∧ yX10_fewest.cls ≠ "java/lang/invoke/VarHandle" ∧ (parseMethodDescriptor yX10_fewest.desc).map (fun d => d.parameters.length) = some 1 := by decide +kernel
def f_X10_fewest_0 (N : Nat) (P : Nat → ql_St) (z : ql_V) (x1 : Int32) : Option (Int32 × ql_V) := (f_X10_isProgram N x1).bind fun u1 => if u1 = 0 then some ((-1), z) else if ql_ib x1 4 = true then (f_X2_howMany N P z.2.2.2.1 x1.toNatClampNeg).bind fun u4 => some (u4.1, (z.1, z.2.1, z.2.2.1, u4.2, z.2.2.2.2.1, z.2.2.2.2.2)) else none
def f_X10_fewest (N : Nat) (P : Nat → ql_St) (z : ql_V) (x1 : Int32) : Option (Int32 × ql_V) := f_X10_fewest_0 N P z x1
set_option maxHeartbeats 4000000 in
set_option maxRecDepth 100000 in
theorem w_X10_fewest_0 {p : Program} {l : Launch} {e : Env} {s : State} {m : MethodId} {args : Array Value} {below : List Frame} {meth : Method} {c : Code} {dC : Nat → ClassId} {dI : Nat → Nat → Nat} {A : Nat → Prop} {h : Nat} {ad : Nat → Nat} {aR : Nat} {adr : Nat → Nat} {aG : Nat} {adg : Nat → Nat} {aX : Nat} {adx : Nat → Nat} {aT : Nat} {kd : Nat → Nat} {cI cJ cB cP cQ : ClassId} {pad : Nat → Nat → Nat} {res : Int32 × ql_V} (C0 : ql_C p s m args meth c cX10_fewest 2 (some .int) wsX10_fewest RX10 (dC, dI) [(cI, .int), (cJ, .long), (cB, .byte), (cP, .object RX6), (cQ, .object RX5)] A) (N : Nat) (P : Nat → ql_St) : ∀ (z : ql_V) (x1 : Int32), f_X10_fewest_0 N P z x1 = some res → ∀ (H : Heap) (locs : List Loc) (ls : Array Slot), va_P (dC, dI) vwCl ((ql_cw h ad aR adr aG adg aX adx aT kd cI cJ cB cP cQ pad P) z) H → va_D A ((ql_cw h ad aR adr aG adg aX adx aT kd cI cJ cB cP cQ pad P) z) → va_S A s.heap H locs → lv_has ls 2 [(0, .ref h), (1, .int x1)] → W p l e rm_X10_fewest s m args below meth c H locs 0 0 (ql_Qi below (dC, dI) (ql_cw h ad aR adr aG adg aX adx aT kd cI cJ cB cP cQ pad P) A args s res) (F0 m 0 ls []) := by
  have C0q := C0
  obtain ⟨hx, hb, hr, hml, hown, hts, hlocks, hK, hA⟩ := C0q
  have fl36 := hts (Cond.fieldLink RX10 36 "TestedLoops" "groups" "LTestedLoops$Groups;") (by decide +kernel)
  have fl15 := hts (Cond.fieldLink RX10 15 "TestedLoops" "plans" "[LTestedLoops$Plan;") (by decide +kernel)
  intro z x1 hf H locs ls hP hD hS hl
  unfold f_X10_fewest_0 at hf
  refine lv_iload_n hx hb dX10_fewest_0 rfl (lv_at hl 1 rfl) ?_
  obtain ⟨u1, hu1, hf⟩ := ql_bd hf
  refine ql_callRSi (As := [.int x1]) (rest := []) C0 (c_X10_isProgram l dC dI N x1 u1 hu1) (va_cwS 1 hts gX10_fewest_X10_isProgram rfl rfl rfl qd_X10_isProgram ⟨Nat.le_of_ble_eq_true rfl, Nat.le_of_ble_eq_true rfl⟩) (hK.sub [] rfl) ql_nil hS hl.1 rfl rfl (Nat.le_of_ble_eq_true rfl) dX10_fewest_1 (fun H1 locs hk hS => ?_)
  have hP := ql_keep hP hk
  refine lv_if_ne (tgt := 9) hx hb dX10_fewest_4 (by decide) (fun c2 => ?_) (fun c2 => ?_)
  · have hf := (if_neg c2).symm.trans hf
    refine lv_aload_n hx hb dX10_fewest_9 rfl (lv_at hl 0 rfl) ?_
    refine va_get (D := (dC, dI)) (ci := 10) (v := .ref aG) (C := RX10) (T := TX10) (N := 13) hx hb hts iw_X10_fewest_X10 hown hK.1 hP 0 rfl rfl 5 (by decide) fl36 (fun _ h9 => h9) rfl dX10_fewest_10 ?_
    refine lv_aload_n hx hb dX10_fewest_13 rfl (lv_at hl 0 rfl) ?_
    refine va_get (D := (dC, dI)) (ci := 10) (v := .ref (ad 2)) (C := RX10) (T := TX10) (N := 13) hx hb hts iw_X10_fewest_X10 hown hK.1 hP 0 rfl rfl 2 (by decide) fl15 (fun _ h9 => h9) rfl dX10_fewest_14 ?_
    refine lv_iload_n hx hb dX10_fewest_17 rfl (lv_at hl 1 rfl) ?_
    have g0 := ql_in (ql_gt hf)
    have hf := ql_gx hf
    have gp3 := ql_lt g0
    refine va_aldq (f := ql_pf pad) hx hb hK.1 hP 2 3 rfl rfl g0 dX10_fewest_18 ?_
    refine W.eq (g2 := F0 m 19 ls [.ref (pad x1.toNatClampNeg 100), .ref aG]) (by rw [ql_pfv gp3]) ?_
    obtain ⟨u4, hu4, hf⟩ := ql_bd hf
    refine ql_subVi (wr := ql_cm h ad aR aG aX aT kd cI cJ cB cP cQ pad z.1 z.2.1 ++ (ql_rc aR adr (pad 4 100) cI z.2.2.1 ++ ql_xc aX adx cI cJ (z.2.2.2.2.1, z.2.2.2.2.2))) (As := [.ref (pad x1.toNatClampNeg 100)]) (rest := []) C0 (c_X2_howMany l dC dI aG adg cI pad N P z.2.2.2.1 x1.toNatClampNeg (Nat.lt_of_lt_of_le gp3 (by decide)) u4 hu4) (cwV 1 hts gX10_fewest_X2_howMany rfl rfl rfl qv_X2_howMany ⟨Nat.le_of_ble_eq_true rfl, Nat.le_of_ble_eq_true rfl⟩) (hK.sub [0] rfl) [16, 17, 18, 25, 26, 27, 28, 29, 30, 31, 32, 33, 34, 35, 36, 37, 38, 39, 40, 41, 42, 43, 44, 45, 46, 47, 48, 49, 50, 51, 52, 53, 54, 55, 56, 57, 58, 59, 60, 61, 62, 63, 64] [0, 1, 2, 3, 4, 5, 6, 7, 8, 9, 10, 11, 12, 13, 14, 15, 19, 20, 21, 22, 23, 24] rfl rfl rfl rfl (by decide) (va_recv hK.1 hP (ci := 2) (q0 := 16) rfl rfl) hP hD hS hl.1 rfl rfl (Nat.le_of_ble_eq_true rfl) dX10_fewest_19 (fun H locs hP hD hS => ?_)
    have hP : va_P (dC, dI) vwCl ((ql_cw h ad aR adr aG adg aX adx aT kd cI cJ cB cP cQ pad P) (z.1, z.2.1, z.2.2.1, u4.2, z.2.2.2.2.1, z.2.2.2.2.2)) _ := hP.sub [0, 1, 2, 3, 4, 5, 6, 7, 8, 9, 10, 11, 12, 13, 14, 15, 22, 23, 24, 16, 17, 18, 19, 20, 21, 25, 26, 27, 28, 29, 30, 31, 32, 33, 34, 35, 36, 37, 38, 39, 40, 41, 42, 43, 44, 45, 46, 47, 48, 49, 50, 51, 52, 53, 54, 55, 56, 57, 58, 59, 60, 61, 62, 63, 64] rfl
    have hD : va_D A ((ql_cw h ad aR adr aG adg aX adx aT kd cI cJ cB cP cQ pad P) (z.1, z.2.1, z.2.2.1, u4.2, z.2.2.2.2.1, z.2.2.2.2.2)) := hD.sub [0, 1, 2, 3, 4, 5, 6, 7, 8, 9, 10, 11, 12, 13, 14, 15, 22, 23, 24, 16, 17, 18, 19, 20, 21, 25, 26, 27, 28, 29, 30, 31, 32, 33, 34, 35, 36, 37, 38, 39, 40, 41, 42, 43, 44, 45, 46, 47, 48, 49, 50, 51, 52, 53, 54, 55, 56, 57, 58, 59, 60, 61, 62, 63, 64] (by decide) rfl
    exact ql_iret C0 hf hP hD hS dX10_fewest_22
  · have hf := (if_pos c2).symm.trans hf
    refine lv_iconst (v := (-1)) hx hb dX10_fewest_7 (by decide) ?_
    exact ql_iret C0 hf hP hD hS dX10_fewest_8
set_option maxRecDepth 100000 in
theorem c_X10_fewest (l : Launch) (dC : Nat → ClassId) (dI : Nat → Nat → Nat) (h : Nat) (ad : Nat → Nat) (aR : Nat) (adr : Nat → Nat) (aG : Nat) (adg : Nat → Nat) (aX : Nat) (adx : Nat → Nat) (aT : Nat) (kd : Nat → Nat) (cI cJ cB cP cQ : ClassId) (pad : Nat → Nat → Nat) (N : Nat) (P : Nat → ql_St) (z : ql_V) (x1 : Int32) (res : Int32 × ql_V) (hf : f_X10_fewest N P z x1 = some res) : ql_Mi l yX10_fewest wsX10_fewest rm_X10_fewest (dC, dI) [(cI, .int), (cJ, .long), (cB, .byte), (cP, .object RX6), (cQ, .object RX5)] (ql_cw h ad aR adr aG adg aX adx aT kd cI cJ cB cP cQ pad P) [.ref h, .int x1] z res :=
  ql_start_i (by decide) rfl (Nat.le_of_ble_eq_true rfl) (fun p e s m below meth c A ls C0 hl hP hD hS => w_X10_fewest_0 C0 N P z x1 hf s.heap [] ls hP hD hS (lv_sub (show lv_has ls 2 [(0, .ref h), (1, .int x1)] from hl) [0, 1] rfl))
