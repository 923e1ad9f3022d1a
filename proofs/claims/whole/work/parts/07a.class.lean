abbrev ql_V : Type := ql_St × ql_Lt × ql_St × ql_St × ql_St × ql_Lt
def ql_pf (pad : Nat → Nat → Nat) : Nat → Option Nat := fun k => cond (Nat.blt k 4) (some (pad k 100)) none
theorem ql_pfv {pad : Nat → Nat → Nat} {k : Nat} (h : k < 4) : va_rf (ql_pf pad k) = .ref (pad k 100) := by
  rcases (by omega : k = 0 ∨ k = 1 ∨ k = 2 ∨ k = 3) with rfl | rfl | rfl | rfl <;> rfl
def ql_kf (kd : Nat → Nat) : Nat → Option Nat := fun k => cond (Nat.blt k 5) (some (kd k)) none
def ql_cm (h : Nat) (ad : Nat → Nat) (aR aG aX aT : Nat) (kd : Nat → Nat) (cI cJ cB cP cQ : ClassId) (pad : Nat → Nat → Nat) (S : ql_St) (T : ql_Lt) : va_W := [(h, .inr (10, [.ref (ad 0), .int (S 1 0), .ref (ad 2), .ref aR, .ref aX, .ref aG, .ref (ad 7), .ref aT, .ref (ad 9), .ref (ad 10), .ref (ad 11), .int (S 12 0), .int (S 13 0)])), (ad 0, .inl (cB, 300, .inl (S 0))), (ad 2, .inl (cP, 4, .inr (.inr (.inr (.inr (ql_pf pad)))))), (ad 7, .inl (cQ, 5, .inr (.inr (.inr (.inr (ql_kf kd)))))), (ad 9, .inl (cI, 13, .inl (S 9))), (ad 10, .inl (cJ, 17, .inr (.inl (T 10)))), (ad 11, .inl (cJ, 17, .inr (.inl (T 11)))), (aT, .inr (8, [.long (T 100 0)])), (kd 0, .inr (5, [])), (kd 1, .inr (0, [])), (kd 2, .inr (1, [])), (kd 3, .inr (3, [])), (kd 4, .inr (9, []))]
def ql_cw (h : Nat) (ad : Nat → Nat) (aR : Nat) (adr : Nat → Nat) (aG : Nat) (adg : Nat → Nat) (aX : Nat) (adx : Nat → Nat) (aT : Nat) (kd : Nat → Nat) (cI cJ cB cP cQ : ClassId) (pad : Nat → Nat → Nat) (P : Nat → ql_St) (z : ql_V) : va_W := ql_cm h ad aR aG aX aT kd cI cJ cB cP cQ pad z.1 z.2.1 ++ (ql_rc aR adr (pad 4 100) cI z.2.2.1 ++ (ql_gc aG adg cI z.2.2.2.1 ++ (ql_xc aX adx cI cJ z.2.2.2.2 ++ ql_pls pad cI P)))
/-! ===== TestedLoops.type(JI)I ===== -/
abbrev rm_X10_type : Room := { frames := 0, cells := 0, slots := 0, locals := 0 }
theorem iw_X10_type_X10 : ∀ w ∈ wsX100, w ∈ wsX10_type := fun w h => List.mem_cons_of_mem _ (List.mem_append_right _ h)
theorem qv_X10_type : yX10_type.cls = RX10 ∧ yX10_type.cls ≠ "java/lang/invoke/MethodHandle" ∧ yX10_type.cls ≠ "java/lang/invoke/VarHandle" ∧ (parseMethodDescriptor yX10_type.desc).map (fun d => d.parameters.length) = some 2 := by decide +kernel
def f_X10_type_33 (N : Nat) (P : Nat → ql_St) : Nat → ql_V → Int64 → Int32 → Option (Int32 × ql_V)
  | 0, _, _, _ => none
  | n + 1, z, x1, x4 => if x4 < 0 then some ((z.1 1 0), z) else if ql_ib (z.1 1 0) 300 = true then f_X10_type_33 N P n ((ql_up (ql_up z.1 0 (upd (z.1 0) ((z.1 1 0).toNatClampNeg) (vp_nar .byte ((((x1.toUInt64 >>> ((8 * x4).toInt64.toUInt64 &&& Int64.toUInt64 63)).toInt64).toInt32).toInt8.toInt32)))) 1 (fun _ => ((z.1 1 0) + 1))), z.2.1, z.2.2.1, z.2.2.2.1, z.2.2.2.2.1, z.2.2.2.2.2) x1 (x4 + (-1)) else none
def f_X10_type_0 (N : Nat) (P : Nat → ql_St) (z : ql_V) (x1 : Int64) (x3 : Int32) : Option (Int32 × ql_V) := if x3 < 1 then some ((-1), z) else if x3 ≤ 8 then if ((z.1 1 0) + x3) ≤ 300 then f_X10_type_33 N P N z x1 (x3 - 1) else some ((-3), z) else some ((-1), z)
def f_X10_type (N : Nat) (P : Nat → ql_St) (z : ql_V) (x1 : Int64) (x3 : Int32) : Option (Int32 × ql_V) := f_X10_type_0 N P z x1 x3
set_option maxHeartbeats 4000000 in
set_option maxRecDepth 100000 in
theorem w_X10_type_33 {p : Program} {l : Launch} {e : Env} {s : State} {m : MethodId} {args : Array Value} {below : List Frame} {meth : Method} {c : Code} {dC : Nat → ClassId} {dI : Nat → Nat → Nat} {A : Nat → Prop} {h : Nat} {ad : Nat → Nat} {aR : Nat} {adr : Nat → Nat} {aG : Nat} {adg : Nat → Nat} {aX : Nat} {adx : Nat → Nat} {aT : Nat} {kd : Nat → Nat} {cI cJ cB cP cQ : ClassId} {pad : Nat → Nat → Nat} {res : Int32 × ql_V} (C0 : ql_C p s m args meth c cX10_type 5 (some .int) wsX10_type RX10 (dC, dI) [(cI, .int), (cJ, .long), (cB, .byte), (cP, .object RX6), (cQ, .object RX5)] A) (N : Nat) (P : Nat → ql_St) : ∀ (n : Nat), ∀ (z : ql_V) (x1 : Int64) (x4 : Int32), f_X10_type_33 N P n z x1 x4 = some res → ∀ (H : Heap) (locs : List Loc) (ls : Array Slot), va_P (dC, dI) vwCl ((ql_cw h ad aR adr aG adg aX adx aT kd cI cJ cB cP cQ pad P) z) H → va_D A ((ql_cw h ad aR adr aG adg aX adx aT kd cI cJ cB cP cQ pad P) z) → va_S A s.heap H locs → lv_has ls 5 [(0, .ref h), (1, .long x1), (4, .int x4)] → W p l e rm_X10_type s m args below meth c H locs 0 0 (ql_Qi below (dC, dI) (ql_cw h ad aR adr aG adg aX adx aT kd cI cJ cB cP cQ pad P) A args s res) (F0 m 33 ls []) := by
  have C0q := C0
  obtain ⟨hx, hb, hr, hml, hown, hts, hlocks, hK, hA⟩ := C0q
  have fl78 := hts (Cond.fieldLink RX10 78 "TestedLoops" "length" "I") (by decide +kernel)
  have fl9 := hts (Cond.fieldLink RX10 9 "TestedLoops" "text" "[B") (by decide +kernel)
  intro n
  induction n with
  | zero =>
    intro z x1 x4 hf
    rw [f_X10_type_33] at hf
    cases hf
  | succ n ih =>
    intro z x1 x4 hf H locs ls hP hD hS hl
    rw [f_X10_type_33] at hf
    refine lv_iload hx hb dX10_type_33 (lv_at hl 2 rfl) ?_
    refine lv_if_lt (tgt := 72) hx hb dX10_type_35 (by decide) (fun c1 => ?_) (fun c1 => ?_)
    · have hf := (if_pos c1).symm.trans hf
      refine lv_aload_n hx hb dX10_type_72 rfl (lv_at hl 0 rfl) ?_
      refine va_get (D := (dC, dI)) (ci := 10) (v := .int (z.1 1 0)) (C := RX10) (T := TX10) (N := 13) hx hb hts iw_X10_type_X10 hown hK.1 hP 0 rfl rfl 1 (by decide) fl78 (fun _ h9 => h9) rfl dX10_type_73 ?_
      exact ql_iret C0 hf hP hD hS dX10_type_76
    · have hf := (if_neg c1).symm.trans hf
      refine lv_aload_n hx hb dX10_type_38 rfl (lv_at hl 0 rfl) ?_
      refine va_get (D := (dC, dI)) (ci := 10) (v := .ref (ad 0)) (C := RX10) (T := TX10) (N := 13) hx hb hts iw_X10_type_X10 hown hK.1 hP 0 rfl rfl 0 (by decide) fl9 (fun _ h9 => h9) rfl dX10_type_39 ?_
      refine lv_aload_n hx hb dX10_type_42 rfl (lv_at hl 0 rfl) ?_
      refine va_get (D := (dC, dI)) (ci := 10) (v := .int (z.1 1 0)) (C := RX10) (T := TX10) (N := 13) hx hb hts iw_X10_type_X10 hown hK.1 hP 0 rfl rfl 1 (by decide) fl78 (fun _ h9 => h9) rfl dX10_type_43 ?_
      refine lv_lload_n hx hb dX10_type_46 rfl (lv_at hl 1 rfl) ?_
      refine lv_bipush (v := 8) hx hb dX10_type_47 (by decide) ?_
      refine lv_iload hx hb dX10_type_49 (lv_at hl 2 rfl) ?_
      refine lv_imul hx hb dX10_type_51 ?_
      refine lv_lushr hx hb dX10_type_52 rfl ?_
      refine lv_l2i hx hb dX10_type_53 rfl ?_
      refine lv_i2b hx hb dX10_type_54 rfl ?_
      have g0 := ql_in (ql_gt hf)
      have hf := ql_gx hf
      refine va_bast (f := (z.1 0)) hx hb hK.1 hP hD hS 1 2 rfl rfl g0 dX10_type_55 (fun H locs hP hD hS => ?_)
      refine lv_aload_n hx hb dX10_type_56 rfl (lv_at hl 0 rfl) ?_
      refine lv_dup hx hb dX10_type_57 rfl ?_
      refine va_get (D := (dC, dI)) (ci := 10) (v := .int (z.1 1 0)) (C := RX10) (T := TX10) (N := 13) hx hb hts iw_X10_type_X10 hown hK.1 hP 0 rfl rfl 1 (by decide) fl78 (fun _ h9 => h9) rfl dX10_type_58 ?_
      refine lv_iconst (v := 1) hx hb dX10_type_61 (by decide) ?_
      refine lv_iadd hx hb dX10_type_62 ?_
      refine va_put (D := (dC, dI)) (ci := 10) (v := .int ((z.1 1 0) + 1)) (ty := .int) (C := RX10) (T := TX10) (N := 13) hx hb hts iw_X10_type_X10 tyX10 tyX10_ok nmX10 hown hK.1 hP hD hS 0 rfl rfl 1 (by decide) fl78 (fun _ h9 => h9) rfl (by decide +kernel) rfl rfl (Nat.le_of_ble_eq_true rfl) dX10_type_63 (fun H locs hP hD hS => ?_)
      refine lv_iinc (v := (x4 + (-1))) (lv' := [(4, .int (x4 + (-1))), (0, .ref h), (1, .long x1)]) hx hb dX10_type_66 hl (k := 2) rfl rfl (by decide) rfl (fun ls hl => ?_)
      refine lv_goto (tgt := 33) hx hb dX10_type_69 (by decide) ?_
      exact ih _ _ _ hf _ _ _ hP hD hS (lv_sub hl [1, 2, 0] rfl)
set_option maxHeartbeats 4000000 in
set_option maxRecDepth 100000 in
theorem w_X10_type_0 {p : Program} {l : Launch} {e : Env} {s : State} {m : MethodId} {args : Array Value} {below : List Frame} {meth : Method} {c : Code} {dC : Nat → ClassId} {dI : Nat → Nat → Nat} {A : Nat → Prop} {h : Nat} {ad : Nat → Nat} {aR : Nat} {adr : Nat → Nat} {aG : Nat} {adg : Nat → Nat} {aX : Nat} {adx : Nat → Nat} {aT : Nat} {kd : Nat → Nat} {cI cJ cB cP cQ : ClassId} {pad : Nat → Nat → Nat} {res : Int32 × ql_V} (C0 : ql_C p s m args meth c cX10_type 5 (some .int) wsX10_type RX10 (dC, dI) [(cI, .int), (cJ, .long), (cB, .byte), (cP, .object RX6), (cQ, .object RX5)] A) (N : Nat) (P : Nat → ql_St) : ∀ (z : ql_V) (x1 : Int64) (x3 : Int32), f_X10_type_0 N P z x1 x3 = some res → ∀ (H : Heap) (locs : List Loc) (ls : Array Slot), va_P (dC, dI) vwCl ((ql_cw h ad aR adr aG adg aX adx aT kd cI cJ cB cP cQ pad P) z) H → va_D A ((ql_cw h ad aR adr aG adg aX adx aT kd cI cJ cB cP cQ pad P) z) → va_S A s.heap H locs → lv_has ls 5 [(0, .ref h), (1, .long x1), (3, .int x3)] → W p l e rm_X10_type s m args below meth c H locs 0 0 (ql_Qi below (dC, dI) (ql_cw h ad aR adr aG adg aX adx aT kd cI cJ cB cP cQ pad P) A args s res) (F0 m 0 ls []) := by
  have C0q := C0
  obtain ⟨hx, hb, hr, hml, hown, hts, hlocks, hK, hA⟩ := C0q
  have fl78 := hts (Cond.fieldLink RX10 78 "TestedLoops" "length" "I") (by decide +kernel)
  intro z x1 x3 hf H locs ls hP hD hS hl
  unfold f_X10_type_0 at hf
  refine lv_iload_n hx hb dX10_type_0 rfl (lv_at hl 2 rfl) ?_
  refine lv_iconst (v := 1) hx hb dX10_type_1 (by decide) ?_
  refine lv_icmp_lt (tgt := 11) hx hb dX10_type_2 (by decide) (fun c2 => ?_) (fun c2 => ?_)
  · have hf := (if_pos c2).symm.trans hf
    refine lv_iconst (v := (-1)) hx hb dX10_type_11 (by decide) ?_
    exact ql_iret C0 hf hP hD hS dX10_type_12
  · have hf := (if_neg c2).symm.trans hf
    refine lv_iload_n hx hb dX10_type_5 rfl (lv_at hl 2 rfl) ?_
    refine lv_bipush (v := 8) hx hb dX10_type_6 (by decide) ?_
    refine lv_icmp_le (tgt := 13) hx hb dX10_type_8 (by decide) (fun c3 => ?_) (fun c3 => ?_)
    · have hf := (if_pos c3).symm.trans hf
      refine lv_aload_n hx hb dX10_type_13 rfl (lv_at hl 0 rfl) ?_
      refine va_get (D := (dC, dI)) (ci := 10) (v := .int (z.1 1 0)) (C := RX10) (T := TX10) (N := 13) hx hb hts iw_X10_type_X10 hown hK.1 hP 0 rfl rfl 1 (by decide) fl78 (fun _ h9 => h9) rfl dX10_type_14 ?_
      refine lv_iload_n hx hb dX10_type_17 rfl (lv_at hl 2 rfl) ?_
      refine lv_iadd hx hb dX10_type_18 ?_
      refine lv_sipush (v := 300) hx hb dX10_type_19 (by decide) ?_
      refine lv_icmp_le (tgt := 28) hx hb dX10_type_22 (by decide) (fun c4 => ?_) (fun c4 => ?_)
      · have hf := (if_pos c4).symm.trans hf
        refine lv_iload_n hx hb dX10_type_28 rfl (lv_at hl 2 rfl) ?_
        refine lv_iconst (v := 1) hx hb dX10_type_29 (by decide) ?_
        refine lv_isub hx hb dX10_type_30 ?_
        refine lv_istore (lv' := [(4, .int (x3 - 1)), (0, .ref h), (1, .long x1), (3, .int x3)]) hx hb dX10_type_31 hl (by decide) rfl (fun ls hl => ?_)
        exact w_X10_type_33 C0 N P N _ _ _ hf _ _ _ hP hD hS (lv_sub hl [1, 2, 0] rfl)
      · have hf := (if_neg c4).symm.trans hf
        refine lv_bipush (v := (-3)) hx hb dX10_type_25 (by decide) ?_
        exact ql_iret C0 hf hP hD hS dX10_type_27
    · have hf := (if_neg c3).symm.trans hf
      refine lv_iconst (v := (-1)) hx hb dX10_type_11 (by decide) ?_
      exact ql_iret C0 hf hP hD hS dX10_type_12
set_option maxRecDepth 100000 in
theorem c_X10_type (l : Launch) (dC : Nat → ClassId) (dI : Nat → Nat → Nat) (h : Nat) (ad : Nat → Nat) (aR : Nat) (adr : Nat → Nat) (aG : Nat) (adg : Nat → Nat) (aX : Nat) (adx : Nat → Nat) (aT : Nat) (kd : Nat → Nat) (cI cJ cB cP cQ : ClassId) (pad : Nat → Nat → Nat) (N : Nat) (P : Nat → ql_St) (z : ql_V) (x1 : Int64) (x3 : Int32) (res : Int32 × ql_V) (hf : f_X10_type N P z x1 x3 = some res) : ql_Mi l yX10_type wsX10_type rm_X10_type (dC, dI) [(cI, .int), (cJ, .long), (cB, .byte), (cP, .object RX6), (cQ, .object RX5)] (ql_cw h ad aR adr aG adg aX adx aT kd cI cJ cB cP cQ pad P) [.ref h, .long x1, .int x3] z res :=
  ql_start_i (by decide) rfl (Nat.le_of_ble_eq_true rfl) (fun p e s m below meth c A ls C0 hl hP hD hS => w_X10_type_0 C0 N P z x1 x3 hf s.heap [] ls hP hD hS (lv_sub (show lv_has ls 5 [(0, .ref h), (1, .long x1), (3, .int x3)] from hl) [0, 1, 2] rfl))
/-! ===== TestedLoops.clear()I ===== -/
abbrev rm_X10_clear : Room := { frames := 0, cells := 0, slots := 0, locals := 0 }
theorem iw_X10_clear_X10 : ∀ w ∈ wsX100, w ∈ wsX10_clear := fun w h => List.mem_cons_of_mem _ (List.mem_append_right _ h)
theorem qv_X10_clear : yX10_clear.cls = RX10 ∧ yX10_clear.cls ≠ "java/lang/invoke/MethodHandle" ∧ yX10_clear.cls ≠ "java/lang/invoke/VarHandle" ∧ (parseMethodDescriptor yX10_clear.desc).map (fun d => d.parameters.length) = some 0 := by decide +kernel
def f_X10_clear_0 (N : Nat) (P : Nat → ql_St) (z : ql_V) : Option (Int32 × ql_V) := some ((z.1 1 0), ((ql_up z.1 1 (fun _ => 0)), z.2.1, z.2.2.1, z.2.2.2.1, z.2.2.2.2.1, z.2.2.2.2.2))
def f_X10_clear (N : Nat) (P : Nat → ql_St) (z : ql_V) : Option (Int32 × ql_V) := f_X10_clear_0 N P z
set_option maxHeartbeats 4000000 in
set_option maxRecDepth 100000 in
theorem w_X10_clear_0 {p : Program} {l : Launch} {e : Env} {s : State} {m : MethodId} {args : Array Value} {below : List Frame} {meth : Method} {c : Code} {dC : Nat → ClassId} {dI : Nat → Nat → Nat} {A : Nat → Prop} {h : Nat} {ad : Nat → Nat} {aR : Nat} {adr : Nat → Nat} {aG : Nat} {adg : Nat → Nat} {aX : Nat} {adx : Nat → Nat} {aT : Nat} {kd : Nat → Nat} {cI cJ cB cP cQ : ClassId} {pad : Nat → Nat → Nat} {res : Int32 × ql_V} (C0 : ql_C p s m args meth c cX10_clear 2 (some .int) wsX10_clear RX10 (dC, dI) [(cI, .int), (cJ, .long), (cB, .byte), (cP, .object RX6), (cQ, .object RX5)] A) (N : Nat) (P : Nat → ql_St) : ∀ (z : ql_V), f_X10_clear_0 N P z = some res → ∀ (H : Heap) (locs : List Loc) (ls : Array Slot), va_P (dC, dI) vwCl ((ql_cw h ad aR adr aG adg aX adx aT kd cI cJ cB cP cQ pad P) z) H → va_D A ((ql_cw h ad aR adr aG adg aX adx aT kd cI cJ cB cP cQ pad P) z) → va_S A s.heap H locs → lv_has ls 2 [(0, .ref h)] → W p l e rm_X10_clear s m args below meth c H locs 0 0 (ql_Qi below (dC, dI) (ql_cw h ad aR adr aG adg aX adx aT kd cI cJ cB cP cQ pad P) A args s res) (F0 m 0 ls []) := by
  have C0q := C0
  obtain ⟨hx, hb, hr, hml, hown, hts, hlocks, hK, hA⟩ := C0q
  have fl78 := hts (Cond.fieldLink RX10 78 "TestedLoops" "length" "I") (by decide +kernel)
  intro z hf H locs ls hP hD hS hl
  unfold f_X10_clear_0 at hf
  refine lv_aload_n hx hb dX10_clear_0 rfl (lv_at hl 0 rfl) ?_
  refine va_get (D := (dC, dI)) (ci := 10) (v := .int (z.1 1 0)) (C := RX10) (T := TX10) (N := 13) hx hb hts iw_X10_clear_X10 hown hK.1 hP 0 rfl rfl 1 (by decide) fl78 (fun _ h9 => h9) rfl dX10_clear_1 ?_
  refine lv_istore_n (lv' := [(1, .int (z.1 1 0)), (0, .ref h)]) hx hb dX10_clear_4 rfl hl (by decide) rfl (fun ls hl => ?_)
  refine lv_aload_n hx hb dX10_clear_5 rfl (lv_at hl 1 rfl) ?_
  refine lv_iconst (v := 0) hx hb dX10_clear_6 (by decide) ?_
  refine va_put (D := (dC, dI)) (ci := 10) (v := .int 0) (ty := .int) (C := RX10) (T := TX10) (N := 13) hx hb hts iw_X10_clear_X10 tyX10 tyX10_ok nmX10 hown hK.1 hP hD hS 0 rfl rfl 1 (by decide) fl78 (fun _ h9 => h9) rfl (by decide +kernel) rfl rfl (Nat.le_of_ble_eq_true rfl) dX10_clear_7 (fun H locs hP hD hS => ?_)
  refine lv_iload_n hx hb dX10_clear_10 rfl (lv_at hl 0 rfl) ?_
  exact ql_iret C0 hf hP hD hS dX10_clear_11
set_option maxRecDepth 100000 in
theorem c_X10_clear (l : Launch) (dC : Nat → ClassId) (dI : Nat → Nat → Nat) (h : Nat) (ad : Nat → Nat) (aR : Nat) (adr : Nat → Nat) (aG : Nat) (adg : Nat → Nat) (aX : Nat) (adx : Nat → Nat) (aT : Nat) (kd : Nat → Nat) (cI cJ cB cP cQ : ClassId) (pad : Nat → Nat → Nat) (N : Nat) (P : Nat → ql_St) (z : ql_V) (res : Int32 × ql_V) (hf : f_X10_clear N P z = some res) : ql_Mi l yX10_clear wsX10_clear rm_X10_clear (dC, dI) [(cI, .int), (cJ, .long), (cB, .byte), (cP, .object RX6), (cQ, .object RX5)] (ql_cw h ad aR adr aG adg aX adx aT kd cI cJ cB cP cQ pad P) [.ref h] z res :=
  ql_start_i (by decide) rfl (Nat.le_of_ble_eq_true rfl) (fun p e s m below meth c A ls C0 hl hP hD hS => w_X10_clear_0 C0 N P z hf s.heap [] ls hP hD hS (lv_sub (show lv_has ls 2 [(0, .ref h)] from hl) [0] rfl))
/-! ===== TestedLoops.next(IIII)I ===== -/
abbrev rm_X10_next : Room := { frames := 2, cells := 0, slots := 0, locals := 44 }
theorem iw_X10_next_X10 : ∀ w ∈ wsX100, w ∈ wsX10_next := fun w h => List.mem_cons_of_mem _ (List.mem_append_left _ (List.mem_append_right _ h))
theorem iw_X10_next_X6 : ∀ w ∈ wsX60, w ∈ wsX10_next := fun w h => List.mem_cons_of_mem _ (List.mem_append_right _ h)
theorem qv_X10_next : yX10_next.cls = RX10 ∧ yX10_next.cls ≠ "java/lang/invoke/MethodHandle" ∧ yX10_next.cls ≠ "java/lang/invoke/VarHandle" ∧ (parseMethodDescriptor yX10_next.desc).map (fun d => d.parameters.length) = some 4 := by decide +kernel
def f_X10_next_0 (N : Nat) (P : Nat → ql_St) (z : ql_V) (x1 : Int32) (x2 : Int32) (x3 : Int32) (x4 : Int32) : Option (Int32) := (f_X10_isProgram N x1).bind fun u1 => if u1 = 0 then some (-1) else if ql_ib x1 4 = true then (f_X6_canGoFrom N (P x1.toNatClampNeg) x2).bind fun u4 => if u4 = 0 then some (-1) else if x3 < 0 then some (-1) else if 4 ≤ x3 then some (-1) else if x4 < 0 then some (-1) else if x4 ≤ 1 then if ql_ib x1 4 = true then (f_X6_goes N (P x1.toNatClampNeg) x2 x3).bind fun u11 => if x4 = 0 then some u11 else if ql_ib x1 4 = true then (f_X6_actAt N (P x1.toNatClampNeg) u11).bind fun u14 => some u14 else none else none else some (-1) else none
def f_X10_next (N : Nat) (P : Nat → ql_St) (z : ql_V) (x1 : Int32) (x2 : Int32) (x3 : Int32) (x4 : Int32) : Option (Int32) := f_X10_next_0 N P z x1 x2 x3 x4
set_option maxHeartbeats 4000000 in
set_option maxRecDepth 100000 in
theorem w_X10_next_0 {p : Program} {l : Launch} {e : Env} {s : State} {m : MethodId} {args : Array Value} {below : List Frame} {meth : Method} {c : Code} {dC : Nat → ClassId} {dI : Nat → Nat → Nat} {A : Nat → Prop} {h : Nat} {ad : Nat → Nat} {aR : Nat} {adr : Nat → Nat} {aG : Nat} {adg : Nat → Nat} {aX : Nat} {adx : Nat → Nat} {aT : Nat} {kd : Nat → Nat} {cI cJ cB cP cQ : ClassId} {pad : Nat → Nat → Nat} {res : Int32} (C0 : ql_C p s m args meth c cX10_next 6 (some .int) wsX10_next RX10 (dC, dI) [(cI, .int), (cJ, .long), (cB, .byte), (cP, .object RX6), (cQ, .object RX5)] A) (N : Nat) (P : Nat → ql_St) (z : ql_V) : ∀ (x1 : Int32) (x2 : Int32) (x3 : Int32) (x4 : Int32), f_X10_next_0 N P z x1 x2 x3 x4 = some res → ∀ (H : Heap) (locs : List Loc) (ls : Array Slot), va_P (dC, dI) vwCl ((ql_cw h ad aR adr aG adg aX adx aT kd cI cJ cB cP cQ pad P) z) H → va_S A s.heap H locs → lv_has ls 6 [(0, .ref h), (1, .int x1), (2, .int x2), (3, .int x3), (4, .int x4)] → W p l e rm_X10_next s m args below meth c H locs 0 0 (ql_Qri below A args s res) (F0 m 0 ls []) := by
  have C0q := C0
  obtain ⟨hx, hb, hr, hml, hown, hts, hlocks, hK, hA⟩ := C0q
  have fl15 := hts (Cond.fieldLink RX10 15 "TestedLoops" "plans" "[LTestedLoops$Plan;") (by decide +kernel)
  intro x1 x2 x3 x4 hf H locs ls hP hS hl
  unfold f_X10_next_0 at hf
  refine lv_iload_n hx hb dX10_next_0 rfl (lv_at hl 1 rfl) ?_
  obtain ⟨u1, hu1, hf⟩ := ql_bd hf
  refine ql_callRSi (As := [.int x1]) (rest := []) C0 (c_X10_isProgram l dC dI N x1 u1 hu1) (va_cwS 1 hts gX10_next_X10_isProgram rfl rfl rfl qd_X10_isProgram ⟨Nat.le_of_ble_eq_true rfl, Nat.le_of_ble_eq_true rfl⟩) (hK.sub [] rfl) ql_nil hS hl.1 rfl rfl (Nat.le_of_ble_eq_true rfl) dX10_next_1 (fun H1 locs hk hS => ?_)
  have hP := ql_keep hP hk
  refine lv_if_eq (tgt := 20) hx hb dX10_next_4 (by decide) (fun c2 => ?_) (fun c2 => ?_)
  · have hf := (if_pos c2).symm.trans hf
    refine lv_iconst (v := (-1)) hx hb dX10_next_20 (by decide) ?_
    exact ql_riret C0 hf hS dX10_next_21
  · have hf := (if_neg c2).symm.trans hf
    refine lv_aload_n hx hb dX10_next_7 rfl (lv_at hl 0 rfl) ?_
    refine va_get (D := (dC, dI)) (ci := 10) (v := .ref (ad 2)) (C := RX10) (T := TX10) (N := 13) hx hb hts iw_X10_next_X10 hown hK.1 hP 0 rfl rfl 2 (by decide) fl15 (fun _ h9 => h9) rfl dX10_next_8 ?_
    refine lv_iload_n hx hb dX10_next_11 rfl (lv_at hl 1 rfl) ?_
    have g0 := ql_in (ql_gt hf)
    have hf := ql_gx hf
    have gp3 := ql_lt g0
    refine va_aldq (f := ql_pf pad) hx hb hK.1 hP 2 3 rfl rfl g0 dX10_next_12 ?_
    refine W.eq (g2 := F0 m 13 ls [.ref (pad x1.toNatClampNeg 100)]) (by rw [ql_pfv gp3]) ?_
    refine lv_iload_n hx hb dX10_next_13 rfl (lv_at hl 2 rfl) ?_
    obtain ⟨u4, hu4, hf⟩ := ql_bd hf
    refine ql_callRVi (As := [.int x2]) (rest := []) C0 (c_X6_canGoFrom l dC dI (pad x1.toNatClampNeg 100) (pad x1.toNatClampNeg) cI N (P x1.toNatClampNeg) x2 u4 hu4) (cwV 1 hts gX10_next_X6_canGoFrom rfl rfl rfl qv_X6_canGoFrom ⟨Nat.le_of_ble_eq_true rfl, Nat.le_of_ble_eq_true rfl⟩) (va_recv hK.1 (ql_pl 25 hP rfl (Nat.lt_of_lt_of_le gp3 (by decide))) (ci := 6) (q0 := 0) rfl rfl) (hK.sub [0] rfl) (ql_pl 25 hP rfl (Nat.lt_of_lt_of_le gp3 (by decide))) hS hl.1 rfl rfl (Nat.le_of_ble_eq_true rfl) dX10_next_14 (fun H1 locs hk hS => ?_)
    have hP := ql_keep hP hk
    refine lv_if_ne (tgt := 22) hx hb dX10_next_17 (by decide) (fun c5 => ?_) (fun c5 => ?_)
    · have hf := (if_neg c5).symm.trans hf
      refine lv_iload_n hx hb dX10_next_22 rfl (lv_at hl 3 rfl) ?_
      refine lv_if_lt (tgt := 42) hx hb dX10_next_23 (by decide) (fun c6 => ?_) (fun c6 => ?_)
      · have hf := (if_pos c6).symm.trans hf
        refine lv_iconst (v := (-1)) hx hb dX10_next_42 (by decide) ?_
        exact ql_riret C0 hf hS dX10_next_43
      · have hf := (if_neg c6).symm.trans hf
        refine lv_iload_n hx hb dX10_next_26 rfl (lv_at hl 3 rfl) ?_
        refine lv_iconst (v := 4) hx hb dX10_next_27 (by decide) ?_
        refine lv_icmp_ge (tgt := 42) hx hb dX10_next_28 (by decide) (fun c7 => ?_) (fun c7 => ?_)
        · have hf := (if_pos c7).symm.trans hf
          refine lv_iconst (v := (-1)) hx hb dX10_next_42 (by decide) ?_
          exact ql_riret C0 hf hS dX10_next_43
        · have hf := (if_neg c7).symm.trans hf
          refine lv_iload hx hb dX10_next_31 (lv_at hl 4 rfl) ?_
          refine lv_if_lt (tgt := 42) hx hb dX10_next_33 (by decide) (fun c8 => ?_) (fun c8 => ?_)
          · have hf := (if_pos c8).symm.trans hf
            refine lv_iconst (v := (-1)) hx hb dX10_next_42 (by decide) ?_
            exact ql_riret C0 hf hS dX10_next_43
          · have hf := (if_neg c8).symm.trans hf
            refine lv_iload hx hb dX10_next_36 (lv_at hl 4 rfl) ?_
            refine lv_iconst (v := 1) hx hb dX10_next_38 (by decide) ?_
            refine lv_icmp_le (tgt := 44) hx hb dX10_next_39 (by decide) (fun c9 => ?_) (fun c9 => ?_)
            · have hf := (if_pos c9).symm.trans hf
              refine lv_aload_n hx hb dX10_next_44 rfl (lv_at hl 0 rfl) ?_
              refine va_get (D := (dC, dI)) (ci := 10) (v := .ref (ad 2)) (C := RX10) (T := TX10) (N := 13) hx hb hts iw_X10_next_X10 hown hK.1 hP 0 rfl rfl 2 (by decide) fl15 (fun _ h9 => h9) rfl dX10_next_45 ?_
              refine lv_iload_n hx hb dX10_next_48 rfl (lv_at hl 1 rfl) ?_
              have g0 := ql_in (ql_gt hf)
              have hf := ql_gx hf
              have gp10 := ql_lt g0
              refine va_aldq (f := ql_pf pad) hx hb hK.1 hP 2 3 rfl rfl g0 dX10_next_49 ?_
              refine W.eq (g2 := F0 m 50 ls [.ref (pad x1.toNatClampNeg 100)]) (by rw [ql_pfv gp10]) ?_
              refine lv_iload_n hx hb dX10_next_50 rfl (lv_at hl 2 rfl) ?_
              refine lv_iload_n hx hb dX10_next_51 rfl (lv_at hl 3 rfl) ?_
              obtain ⟨u11, hu11, hf⟩ := ql_bd hf
              refine ql_callRVi (As := [.int x2, .int x3]) (rest := []) C0 (c_X6_goes l dC dI (pad x1.toNatClampNeg 100) (pad x1.toNatClampNeg) cI N (P x1.toNatClampNeg) x2 x3 u11 hu11) (cwV 2 hts gX10_next_X6_goes rfl rfl rfl qv_X6_goes ⟨Nat.le_of_ble_eq_true rfl, Nat.le_of_ble_eq_true rfl⟩) (va_recv hK.1 (ql_pl 25 hP rfl (Nat.lt_of_lt_of_le gp10 (by decide))) (ci := 6) (q0 := 0) rfl rfl) (hK.sub [0] rfl) (ql_pl 25 hP rfl (Nat.lt_of_lt_of_le gp10 (by decide))) hS hl.1 rfl rfl (Nat.le_of_ble_eq_true rfl) dX10_next_52 (fun H1 locs hk hS => ?_)
              have hP := ql_keep hP hk
              refine lv_istore (lv' := [(5, .int u11), (0, .ref h), (1, .int x1), (2, .int x2), (3, .int x3), (4, .int x4)]) hx hb dX10_next_55 hl (by decide) rfl (fun ls hl => ?_)
              refine lv_iload hx hb dX10_next_57 (lv_at hl 5 rfl) ?_
              refine lv_if_ne (tgt := 67) hx hb dX10_next_59 (by decide) (fun c12 => ?_) (fun c12 => ?_)
              · have hf := (if_neg c12).symm.trans hf
                refine lv_aload_n hx hb dX10_next_67 rfl (lv_at hl 1 rfl) ?_
                refine va_get (D := (dC, dI)) (ci := 10) (v := .ref (ad 2)) (C := RX10) (T := TX10) (N := 13) hx hb hts iw_X10_next_X10 hown hK.1 hP 0 rfl rfl 2 (by decide) fl15 (fun _ h9 => h9) rfl dX10_next_68 ?_
                refine lv_iload_n hx hb dX10_next_71 rfl (lv_at hl 2 rfl) ?_
                have g0 := ql_in (ql_gt hf)
                have hf := ql_gx hf
                have gp13 := ql_lt g0
                refine va_aldq (f := ql_pf pad) hx hb hK.1 hP 2 3 rfl rfl g0 dX10_next_72 ?_
                refine W.eq (g2 := F0 m 73 ls [.ref (pad x1.toNatClampNeg 100)]) (by rw [ql_pfv gp13]) ?_
                refine lv_iload hx hb dX10_next_73 (lv_at hl 0 rfl) ?_
                obtain ⟨u14, hu14, hf⟩ := ql_bd hf
                refine ql_callRVi (As := [.int u11]) (rest := []) C0 (c_X6_actAt l dC dI (pad x1.toNatClampNeg 100) (pad x1.toNatClampNeg) cI N (P x1.toNatClampNeg) u11 u14 hu14) (cwV 1 hts gX10_next_X6_actAt rfl rfl rfl qv_X6_actAt ⟨Nat.le_of_ble_eq_true rfl, Nat.le_of_ble_eq_true rfl⟩) (va_recv hK.1 (ql_pl 25 hP rfl (Nat.lt_of_lt_of_le gp13 (by decide))) (ci := 6) (q0 := 0) rfl rfl) (hK.sub [0] rfl) (ql_pl 25 hP rfl (Nat.lt_of_lt_of_le gp13 (by decide))) hS hl.1 rfl rfl (Nat.le_of_ble_eq_true rfl) dX10_next_75 (fun H1 locs hk hS => ?_)
                have hP := ql_keep hP hk
                exact ql_riret C0 hf hS dX10_next_78
              · have hf := (if_pos c12).symm.trans hf
                refine lv_iload hx hb dX10_next_62 (lv_at hl 0 rfl) ?_
                refine lv_goto (tgt := 78) hx hb dX10_next_64 (by decide) ?_
                exact ql_riret C0 hf hS dX10_next_78
            · have hf := (if_neg c9).symm.trans hf
              refine lv_iconst (v := (-1)) hx hb dX10_next_42 (by decide) ?_
              exact ql_riret C0 hf hS dX10_next_43
    · have hf := (if_pos c5).symm.trans hf
      refine lv_iconst (v := (-1)) hx hb dX10_next_20 (by decide) ?_
      exact ql_riret C0 hf hS dX10_next_21
set_option maxRecDepth 100000 in
theorem c_X10_next (l : Launch) (dC : Nat → ClassId) (dI : Nat → Nat → Nat) (h : Nat) (ad : Nat → Nat) (aR : Nat) (adr : Nat → Nat) (aG : Nat) (adg : Nat → Nat) (aX : Nat) (adx : Nat → Nat) (aT : Nat) (kd : Nat → Nat) (cI cJ cB cP cQ : ClassId) (pad : Nat → Nat → Nat) (N : Nat) (P : Nat → ql_St) (z : ql_V) (x1 : Int32) (x2 : Int32) (x3 : Int32) (x4 : Int32) (res : Int32) (hf : f_X10_next N P z x1 x2 x3 x4 = some res) : ql_Ri l yX10_next wsX10_next rm_X10_next (dC, dI) [(cI, .int), (cJ, .long), (cB, .byte), (cP, .object RX6), (cQ, .object RX5)] ((ql_cw h ad aR adr aG adg aX adx aT kd cI cJ cB cP cQ pad P) z) [.ref h, .int x1, .int x2, .int x3, .int x4] res :=
  ql_start_ri (by decide) rfl (Nat.le_of_ble_eq_true rfl) (fun p e s m below meth c A ls C0 hl hP hS => w_X10_next_0 C0 N P z x1 x2 x3 x4 hf s.heap [] ls hP hS (lv_sub (show lv_has ls 6 [(0, .ref h), (1, .int x1), (2, .int x2), (3, .int x3), (4, .int x4)] from hl) [0, 1, 2, 3, 4] rfl))
/-! ===== TestedLoops.act(II)I ===== -/
abbrev rm_X10_act : Room := { frames := 2, cells := 0, slots := 0, locals := 42 }
theorem iw_X10_act_X10 : ∀ w ∈ wsX100, w ∈ wsX10_act := fun w h => List.mem_cons_of_mem _ (List.mem_append_left _ (List.mem_append_right _ h))
theorem iw_X10_act_X6 : ∀ w ∈ wsX60, w ∈ wsX10_act := fun w h => List.mem_cons_of_mem _ (List.mem_append_right _ h)
theorem qv_X10_act : yX10_act.cls = RX10 ∧ yX10_act.cls ≠ "java/lang/invoke/MethodHandle" ∧ yX10_act.cls ≠ "java/lang/invoke/VarHandle" ∧ (parseMethodDescriptor yX10_act.desc).map (fun d => d.parameters.length) = some 2 := by decide +kernel
def f_X10_act_0 (N : Nat) (P : Nat → ql_St) (z : ql_V) (x1 : Int32) (x2 : Int32) : Option (Int32) := (f_X10_isProgram N x1).bind fun u1 => if u1 = 0 then some (-1) else if ql_ib x1 4 = true then (f_X6_isPlace N (P x1.toNatClampNeg) x2).bind fun u4 => if u4 = 0 then some (-1) else if ql_ib x1 4 = true then (f_X6_actAt N (P x1.toNatClampNeg) x2).bind fun u7 => some u7 else none else none
def f_X10_act (N : Nat) (P : Nat → ql_St) (z : ql_V) (x1 : Int32) (x2 : Int32) : Option (Int32) := f_X10_act_0 N P z x1 x2
set_option maxHeartbeats 4000000 in
set_option maxRecDepth 100000 in
theorem w_X10_act_0 {p : Program} {l : Launch} {e : Env} {s : State} {m : MethodId} {args : Array Value} {below : List Frame} {meth : Method} {c : Code} {dC : Nat → ClassId} {dI : Nat → Nat → Nat} {A : Nat → Prop} {h : Nat} {ad : Nat → Nat} {aR : Nat} {adr : Nat → Nat} {aG : Nat} {adg : Nat → Nat} {aX : Nat} {adx : Nat → Nat} {aT : Nat} {kd : Nat → Nat} {cI cJ cB cP cQ : ClassId} {pad : Nat → Nat → Nat} {res : Int32} (C0 : ql_C p s m args meth c cX10_act 3 (some .int) wsX10_act RX10 (dC, dI) [(cI, .int), (cJ, .long), (cB, .byte), (cP, .object RX6), (cQ, .object RX5)] A) (N : Nat) (P : Nat → ql_St) (z : ql_V) : ∀ (x1 : Int32) (x2 : Int32), f_X10_act_0 N P z x1 x2 = some res → ∀ (H : Heap) (locs : List Loc) (ls : Array Slot), va_P (dC, dI) vwCl ((ql_cw h ad aR adr aG adg aX adx aT kd cI cJ cB cP cQ pad P) z) H → va_S A s.heap H locs → lv_has ls 3 [(0, .ref h), (1, .int x1), (2, .int x2)] → W p l e rm_X10_act s m args below meth c H locs 0 0 (ql_Qri below A args s res) (F0 m 0 ls []) := by
  have C0q := C0
  obtain ⟨hx, hb, hr, hml, hown, hts, hlocks, hK, hA⟩ := C0q
  have fl15 := hts (Cond.fieldLink RX10 15 "TestedLoops" "plans" "[LTestedLoops$Plan;") (by decide +kernel)
  intro x1 x2 hf H locs ls hP hS hl
  unfold f_X10_act_0 at hf
  refine lv_iload_n hx hb dX10_act_0 rfl (lv_at hl 1 rfl) ?_
  obtain ⟨u1, hu1, hf⟩ := ql_bd hf
  refine ql_callRSi (As := [.int x1]) (rest := []) C0 (c_X10_isProgram l dC dI N x1 u1 hu1) (va_cwS 1 hts gX10_act_X10_isProgram rfl rfl rfl qd_X10_isProgram ⟨Nat.le_of_ble_eq_true rfl, Nat.le_of_ble_eq_true rfl⟩) (hK.sub [] rfl) ql_nil hS hl.1 rfl rfl (Nat.le_of_ble_eq_true rfl) dX10_act_1 (fun H1 locs hk hS => ?_)
  have hP := ql_keep hP hk
  refine lv_if_eq (tgt := 20) hx hb dX10_act_4 (by decide) (fun c2 => ?_) (fun c2 => ?_)
  · have hf := (if_pos c2).symm.trans hf
    refine lv_iconst (v := (-1)) hx hb dX10_act_20 (by decide) ?_
    exact ql_riret C0 hf hS dX10_act_21
  · have hf := (if_neg c2).symm.trans hf
    refine lv_aload_n hx hb dX10_act_7 rfl (lv_at hl 0 rfl) ?_
    refine va_get (D := (dC, dI)) (ci := 10) (v := .ref (ad 2)) (C := RX10) (T := TX10) (N := 13) hx hb hts iw_X10_act_X10 hown hK.1 hP 0 rfl rfl 2 (by decide) fl15 (fun _ h9 => h9) rfl dX10_act_8 ?_
    refine lv_iload_n hx hb dX10_act_11 rfl (lv_at hl 1 rfl) ?_
    have g0 := ql_in (ql_gt hf)
    have hf := ql_gx hf
    have gp3 := ql_lt g0
    refine va_aldq (f := ql_pf pad) hx hb hK.1 hP 2 3 rfl rfl g0 dX10_act_12 ?_
    refine W.eq (g2 := F0 m 13 ls [.ref (pad x1.toNatClampNeg 100)]) (by rw [ql_pfv gp3]) ?_
    refine lv_iload_n hx hb dX10_act_13 rfl (lv_at hl 2 rfl) ?_
    obtain ⟨u4, hu4, hf⟩ := ql_bd hf
    refine ql_callRVi (As := [.int x2]) (rest := []) C0 (c_X6_isPlace l dC dI (pad x1.toNatClampNeg 100) (pad x1.toNatClampNeg) cI N (P x1.toNatClampNeg) x2 u4 hu4) (cwV 1 hts gX10_act_X6_isPlace rfl rfl rfl qv_X6_isPlace ⟨Nat.le_of_ble_eq_true rfl, Nat.le_of_ble_eq_true rfl⟩) (va_recv hK.1 (ql_pl 25 hP rfl (Nat.lt_of_lt_of_le gp3 (by decide))) (ci := 6) (q0 := 0) rfl rfl) (hK.sub [0] rfl) (ql_pl 25 hP rfl (Nat.lt_of_lt_of_le gp3 (by decide))) hS hl.1 rfl rfl (Nat.le_of_ble_eq_true rfl) dX10_act_14 (fun H1 locs hk hS => ?_)
    have hP := ql_keep hP hk
    refine lv_if_ne (tgt := 22) hx hb dX10_act_17 (by decide) (fun c5 => ?_) (fun c5 => ?_)
    · have hf := (if_neg c5).symm.trans hf
      refine lv_aload_n hx hb dX10_act_22 rfl (lv_at hl 0 rfl) ?_
      refine va_get (D := (dC, dI)) (ci := 10) (v := .ref (ad 2)) (C := RX10) (T := TX10) (N := 13) hx hb hts iw_X10_act_X10 hown hK.1 hP 0 rfl rfl 2 (by decide) fl15 (fun _ h9 => h9) rfl dX10_act_23 ?_
      refine lv_iload_n hx hb dX10_act_26 rfl (lv_at hl 1 rfl) ?_
      have g0 := ql_in (ql_gt hf)
      have hf := ql_gx hf
      have gp6 := ql_lt g0
      refine va_aldq (f := ql_pf pad) hx hb hK.1 hP 2 3 rfl rfl g0 dX10_act_27 ?_
      refine W.eq (g2 := F0 m 28 ls [.ref (pad x1.toNatClampNeg 100)]) (by rw [ql_pfv gp6]) ?_
      refine lv_iload_n hx hb dX10_act_28 rfl (lv_at hl 2 rfl) ?_
      obtain ⟨u7, hu7, hf⟩ := ql_bd hf
      refine ql_callRVi (As := [.int x2]) (rest := []) C0 (c_X6_actAt l dC dI (pad x1.toNatClampNeg 100) (pad x1.toNatClampNeg) cI N (P x1.toNatClampNeg) x2 u7 hu7) (cwV 1 hts gX10_act_X6_actAt rfl rfl rfl qv_X6_actAt ⟨Nat.le_of_ble_eq_true rfl, Nat.le_of_ble_eq_true rfl⟩) (va_recv hK.1 (ql_pl 25 hP rfl (Nat.lt_of_lt_of_le gp6 (by decide))) (ci := 6) (q0 := 0) rfl rfl) (hK.sub [0] rfl) (ql_pl 25 hP rfl (Nat.lt_of_lt_of_le gp6 (by decide))) hS hl.1 rfl rfl (Nat.le_of_ble_eq_true rfl) dX10_act_29 (fun H1 locs hk hS => ?_)
      have hP := ql_keep hP hk
      exact ql_riret C0 hf hS dX10_act_32
    · have hf := (if_pos c5).symm.trans hf
      refine lv_iconst (v := (-1)) hx hb dX10_act_20 (by decide) ?_
      exact ql_riret C0 hf hS dX10_act_21
set_option maxRecDepth 100000 in
theorem c_X10_act (l : Launch) (dC : Nat → ClassId) (dI : Nat → Nat → Nat) (h : Nat) (ad : Nat → Nat) (aR : Nat) (adr : Nat → Nat) (aG : Nat) (adg : Nat → Nat) (aX : Nat) (adx : Nat → Nat) (aT : Nat) (kd : Nat → Nat) (cI cJ cB cP cQ : ClassId) (pad : Nat → Nat → Nat) (N : Nat) (P : Nat → ql_St) (z : ql_V) (x1 : Int32) (x2 : Int32) (res : Int32) (hf : f_X10_act N P z x1 x2 = some res) : ql_Ri l yX10_act wsX10_act rm_X10_act (dC, dI) [(cI, .int), (cJ, .long), (cB, .byte), (cP, .object RX6), (cQ, .object RX5)] ((ql_cw h ad aR adr aG adg aX adx aT kd cI cJ cB cP cQ pad P) z) [.ref h, .int x1, .int x2] res :=
  ql_start_ri (by decide) rfl (Nat.le_of_ble_eq_true rfl) (fun p e s m below meth c A ls C0 hl hP hS => w_X10_act_0 C0 N P z x1 x2 hf s.heap [] ls hP hS (lv_sub (show lv_has ls 3 [(0, .ref h), (1, .int x1), (2, .int x2)] from hl) [0, 1, 2] rfl))
/-! ===== TestedLoops.takeRow(IJ)Z ===== -/
abbrev rm_X10_takeRow : Room := { frames := 0, cells := 0, slots := 0, locals := 0 }
theorem iw_X10_takeRow_X10 : ∀ w ∈ wsX100, w ∈ wsX10_takeRow := fun w h => List.mem_cons_of_mem _ (List.mem_append_right _ h)
theorem qv_X10_takeRow : yX10_takeRow.cls = RX10 ∧ yX10_takeRow.cls ≠ "java/lang/invoke/MethodHandle" ∧ yX10_takeRow.cls ≠ "java/lang/invoke/VarHandle" ∧ (parseMethodDescriptor yX10_takeRow.desc).map (fun d => d.parameters.length) = some 2 := by decide +kernel
def f_X10_takeRow_24 (N : Nat) (P : Nat → ql_St) : Nat → ql_V → Int64 → Int32 → Option (Int32 × ql_V)
  | 0, _, _, _ => none
  | n + 1, z, x4, x6 => if x6 ≤ 0 then if (lg_cmp x4 4) < 0 then some (1, ((ql_up z.1 9 (upd (z.1 9) 0 x4.toInt32)), z.2.1, z.2.2.1, z.2.2.2.1, z.2.2.2.2.1, z.2.2.2.2.2)) else some (0, z) else if ql_ib x6 13 = true then f_X10_takeRow_24 N P n ((ql_up z.1 9 (upd (z.1 9) x6.toNatClampNeg ((x4 - x4 / 12 * 12).toInt32))), z.2.1, z.2.2.1, z.2.2.2.1, z.2.2.2.2.1, z.2.2.2.2.2) (x4 / 12) (x6 + (-1)) else none
def f_X10_takeRow_0 (N : Nat) (P : Nat → ql_St) (z : ql_V) (x1 : Int32) (x2 : Int64) : Option (Int32 × ql_V) := if x1 < 0 then some (0, z) else if 12 < x1 then some (0, z) else if 0 ≤ (lg_cmp x2 0) then f_X10_takeRow_24 N P N z x2 x1 else some (0, z)
def f_X10_takeRow (N : Nat) (P : Nat → ql_St) (z : ql_V) (x1 : Int32) (x2 : Int64) : Option (Int32 × ql_V) := f_X10_takeRow_0 N P z x1 x2
set_option maxHeartbeats 4000000 in
set_option maxRecDepth 100000 in
theorem w_X10_takeRow_24 {p : Program} {l : Launch} {e : Env} {s : State} {m : MethodId} {args : Array Value} {below : List Frame} {meth : Method} {c : Code} {dC : Nat → ClassId} {dI : Nat → Nat → Nat} {A : Nat → Prop} {h : Nat} {ad : Nat → Nat} {aR : Nat} {adr : Nat → Nat} {aG : Nat} {adg : Nat → Nat} {aX : Nat} {adx : Nat → Nat} {aT : Nat} {kd : Nat → Nat} {cI cJ cB cP cQ : ClassId} {pad : Nat → Nat → Nat} {res : Int32 × ql_V} (C0 : ql_C p s m args meth c cX10_takeRow 7 (some .boolean) wsX10_takeRow RX10 (dC, dI) [(cI, .int), (cJ, .long), (cB, .byte), (cP, .object RX6), (cQ, .object RX5)] A) (N : Nat) (P : Nat → ql_St) : ∀ (n : Nat), ∀ (z : ql_V) (x4 : Int64) (x6 : Int32), f_X10_takeRow_24 N P n z x4 x6 = some res → ∀ (H : Heap) (locs : List Loc) (ls : Array Slot), va_P (dC, dI) vwCl ((ql_cw h ad aR adr aG adg aX adx aT kd cI cJ cB cP cQ pad P) z) H → va_D A ((ql_cw h ad aR adr aG adg aX adx aT kd cI cJ cB cP cQ pad P) z) → va_S A s.heap H locs → lv_has ls 7 [(0, .ref h), (4, .long x4), (6, .int x6)] → W p l e rm_X10_takeRow s m args below meth c H locs 0 0 (ql_Qi below (dC, dI) (ql_cw h ad aR adr aG adg aX adx aT kd cI cJ cB cP cQ pad P) A args s res) (F0 m 24 ls []) := by
  have C0q := C0
  obtain ⟨hx, hb, hr, hml, hown, hts, hlocks, hK, hA⟩ := C0q
  have fl187 := hts (Cond.constantLong RX10 187 (4)) (by decide +kernel)
  have fl66 := hts (Cond.fieldLink RX10 66 "TestedLoops" "digits" "[I") (by decide +kernel)
  have fl185 := hts (Cond.constantLong RX10 185 (12)) (by decide +kernel)
  intro n
  induction n with
  | zero =>
    intro z x4 x6 hf
    rw [f_X10_takeRow_24] at hf
    cases hf
  | succ n ih =>
    intro z x4 x6 hf H locs ls hP hD hS hl
    rw [f_X10_takeRow_24] at hf
    refine lv_iload hx hb dX10_takeRow_24 (lv_at hl 2 rfl) ?_
    refine lv_if_le (tgt := 57) hx hb dX10_takeRow_26 (by decide) (fun c1 => ?_) (fun c1 => ?_)
    · have hf := (if_pos c1).symm.trans hf
      refine lv_lload hx hb dX10_takeRow_57 (lv_at hl 1 rfl) ?_
      refine lv_ldc2 hx hb hown fl187 dX10_takeRow_59 ?_
      refine W.lcmp hx hb dX10_takeRow_62 ?_
      refine lv_if_lt (tgt := 68) hx hb dX10_takeRow_63 (by decide) (fun c2 => ?_) (fun c2 => ?_)
      · have hf := (if_pos c2).symm.trans hf
        refine lv_aload_n hx hb dX10_takeRow_68 rfl (lv_at hl 0 rfl) ?_
        refine va_get (D := (dC, dI)) (ci := 10) (v := .ref (ad 9)) (C := RX10) (T := TX10) (N := 13) hx hb hts iw_X10_takeRow_X10 hown hK.1 hP 0 rfl rfl 8 (by decide) fl66 (fun _ h9 => h9) rfl dX10_takeRow_69 ?_
        refine lv_iconst (v := 0) hx hb dX10_takeRow_72 (by decide) ?_
        refine lv_lload hx hb dX10_takeRow_73 (lv_at hl 1 rfl) ?_
        refine lv_l2i hx hb dX10_takeRow_75 rfl ?_
        refine va_iast (f := (z.1 9)) hx hb hK.1 hP hD hS 4 0 rfl rfl (ql_in (i := 0) (n := 13) (by decide)) dX10_takeRow_76 (fun H locs hP hD hS => ?_)
        refine lv_iconst (v := 1) hx hb dX10_takeRow_77 (by decide) ?_
        exact ql_zret C0 (Or.inr rfl) hf hP hD hS dX10_takeRow_78
      · have hf := (if_neg c2).symm.trans hf
        refine lv_iconst (v := 0) hx hb dX10_takeRow_66 (by decide) ?_
        exact ql_zret C0 (Or.inl rfl) hf hP hD hS dX10_takeRow_67
    · have hf := (if_neg c1).symm.trans hf
      refine lv_aload_n hx hb dX10_takeRow_29 rfl (lv_at hl 0 rfl) ?_
      refine va_get (D := (dC, dI)) (ci := 10) (v := .ref (ad 9)) (C := RX10) (T := TX10) (N := 13) hx hb hts iw_X10_takeRow_X10 hown hK.1 hP 0 rfl rfl 8 (by decide) fl66 (fun _ h9 => h9) rfl dX10_takeRow_30 ?_
      refine lv_iload hx hb dX10_takeRow_33 (lv_at hl 2 rfl) ?_
      refine lv_lload hx hb dX10_takeRow_35 (lv_at hl 1 rfl) ?_
      refine lv_ldc2 hx hb hown fl185 dX10_takeRow_37 ?_
      refine lv_lrem hx hb dX10_takeRow_40 (by decide) ?_
      refine lv_l2i hx hb dX10_takeRow_41 rfl ?_
      have g0 := ql_in (ql_gt hf)
      have hf := ql_gx hf
      refine va_iast (f := (z.1 9)) hx hb hK.1 hP hD hS 4 0 rfl rfl g0 dX10_takeRow_42 (fun H locs hP hD hS => ?_)
      refine lv_lload hx hb dX10_takeRow_43 (lv_at hl 1 rfl) ?_
      refine lv_ldc2 hx hb hown fl185 dX10_takeRow_45 ?_
      refine lv_ldiv hx hb dX10_takeRow_48 (by decide) ?_
      refine lv_lstore (lv' := [(4, .long (x4 / 12)), (0, .ref h), (6, .int x6)]) hx hb dX10_takeRow_49 hl (by decide) rfl (fun ls hl => ?_)
      refine lv_iinc (v := (x6 + (-1))) (lv' := [(6, .int (x6 + (-1))), (4, .long (x4 / 12)), (0, .ref h)]) hx hb dX10_takeRow_51 hl (k := 2) rfl rfl (by decide) rfl (fun ls hl => ?_)
      refine lv_goto (tgt := 24) hx hb dX10_takeRow_54 (by decide) ?_
      exact ih _ _ _ hf _ _ _ hP hD hS (lv_sub hl [2, 1, 0] rfl)
set_option maxHeartbeats 4000000 in
set_option maxRecDepth 100000 in
theorem w_X10_takeRow_0 {p : Program} {l : Launch} {e : Env} {s : State} {m : MethodId} {args : Array Value} {below : List Frame} {meth : Method} {c : Code} {dC : Nat → ClassId} {dI : Nat → Nat → Nat} {A : Nat → Prop} {h : Nat} {ad : Nat → Nat} {aR : Nat} {adr : Nat → Nat} {aG : Nat} {adg : Nat → Nat} {aX : Nat} {adx : Nat → Nat} {aT : Nat} {kd : Nat → Nat} {cI cJ cB cP cQ : ClassId} {pad : Nat → Nat → Nat} {res : Int32 × ql_V} (C0 : ql_C p s m args meth c cX10_takeRow 7 (some .boolean) wsX10_takeRow RX10 (dC, dI) [(cI, .int), (cJ, .long), (cB, .byte), (cP, .object RX6), (cQ, .object RX5)] A) (N : Nat) (P : Nat → ql_St) : ∀ (z : ql_V) (x1 : Int32) (x2 : Int64), f_X10_takeRow_0 N P z x1 x2 = some res → ∀ (H : Heap) (locs : List Loc) (ls : Array Slot), va_P (dC, dI) vwCl ((ql_cw h ad aR adr aG adg aX adx aT kd cI cJ cB cP cQ pad P) z) H → va_D A ((ql_cw h ad aR adr aG adg aX adx aT kd cI cJ cB cP cQ pad P) z) → va_S A s.heap H locs → lv_has ls 7 [(0, .ref h), (1, .int x1), (2, .long x2)] → W p l e rm_X10_takeRow s m args below meth c H locs 0 0 (ql_Qi below (dC, dI) (ql_cw h ad aR adr aG adg aX adx aT kd cI cJ cB cP cQ pad P) A args s res) (F0 m 0 ls []) := by
  have C0q := C0
  obtain ⟨hx, hb, hr, hml, hown, hts, hlocks, hK, hA⟩ := C0q
  intro z x1 x2 hf H locs ls hP hD hS hl
  unfold f_X10_takeRow_0 at hf
  refine lv_iload_n hx hb dX10_takeRow_0 rfl (lv_at hl 1 rfl) ?_
  refine lv_if_lt (tgt := 16) hx hb dX10_takeRow_1 (by decide) (fun c3 => ?_) (fun c3 => ?_)
  · have hf := (if_pos c3).symm.trans hf
    refine lv_iconst (v := 0) hx hb dX10_takeRow_16 (by decide) ?_
    exact ql_zret C0 (Or.inl rfl) hf hP hD hS dX10_takeRow_17
  · have hf := (if_neg c3).symm.trans hf
    refine lv_iload_n hx hb dX10_takeRow_4 rfl (lv_at hl 1 rfl) ?_
    refine lv_bipush (v := 12) hx hb dX10_takeRow_5 (by decide) ?_
    refine lv_icmp_gt (tgt := 16) hx hb dX10_takeRow_7 (by decide) (fun c4 => ?_) (fun c4 => ?_)
    · have hf := (if_pos c4).symm.trans hf
      refine lv_iconst (v := 0) hx hb dX10_takeRow_16 (by decide) ?_
      exact ql_zret C0 (Or.inl rfl) hf hP hD hS dX10_takeRow_17
    · have hf := (if_neg c4).symm.trans hf
      refine lv_lload_n hx hb dX10_takeRow_10 rfl (lv_at hl 2 rfl) ?_
      refine lv_lconst (v := 0) hx hb dX10_takeRow_11 (by decide) ?_
      refine W.lcmp hx hb dX10_takeRow_12 ?_
      refine lv_if_ge (tgt := 18) hx hb dX10_takeRow_13 (by decide) (fun c5 => ?_) (fun c5 => ?_)
      · have hf := (if_pos c5).symm.trans hf
        refine lv_lload_n hx hb dX10_takeRow_18 rfl (lv_at hl 2 rfl) ?_
        refine lv_lstore (lv' := [(4, .long x2), (0, .ref h), (1, .int x1), (2, .long x2)]) hx hb dX10_takeRow_19 hl (by decide) rfl (fun ls hl => ?_)
        refine lv_iload_n hx hb dX10_takeRow_21 rfl (lv_at hl 2 rfl) ?_
        refine lv_istore (lv' := [(6, .int x1), (4, .long x2), (0, .ref h), (1, .int x1), (2, .long x2)]) hx hb dX10_takeRow_22 hl (by decide) rfl (fun ls hl => ?_)
        exact w_X10_takeRow_24 C0 N P N _ _ _ hf _ _ _ hP hD hS (lv_sub hl [2, 1, 0] rfl)
      · have hf := (if_neg c5).symm.trans hf
        refine lv_iconst (v := 0) hx hb dX10_takeRow_16 (by decide) ?_
        exact ql_zret C0 (Or.inl rfl) hf hP hD hS dX10_takeRow_17
set_option maxRecDepth 100000 in
theorem c_X10_takeRow (l : Launch) (dC : Nat → ClassId) (dI : Nat → Nat → Nat) (h : Nat) (ad : Nat → Nat) (aR : Nat) (adr : Nat → Nat) (aG : Nat) (adg : Nat → Nat) (aX : Nat) (adx : Nat → Nat) (aT : Nat) (kd : Nat → Nat) (cI cJ cB cP cQ : ClassId) (pad : Nat → Nat → Nat) (N : Nat) (P : Nat → ql_St) (z : ql_V) (x1 : Int32) (x2 : Int64) (res : Int32 × ql_V) (hf : f_X10_takeRow N P z x1 x2 = some res) : ql_Mi l yX10_takeRow wsX10_takeRow rm_X10_takeRow (dC, dI) [(cI, .int), (cJ, .long), (cB, .byte), (cP, .object RX6), (cQ, .object RX5)] (ql_cw h ad aR adr aG adg aX adx aT kd cI cJ cB cP cQ pad P) [.ref h, .int x1, .long x2] z res :=
  ql_start_i (by decide) rfl (Nat.le_of_ble_eq_true rfl) (fun p e s m below meth c A ls C0 hl hP hD hS => w_X10_takeRow_0 C0 N P z x1 x2 hf s.heap [] ls hP hD hS (lv_sub (show lv_has ls 7 [(0, .ref h), (1, .int x1), (2, .long x2)] from hl) [0, 1, 2] rfl))
/-! ===== TestedLoops.follow(LTestedLoops$Plan;I)V ===== -/
abbrev rm_X10_follow : Room := { frames := 2, cells := 0, slots := 0, locals := 44 }
theorem iw_X10_follow_X10 : ∀ w ∈ wsX100, w ∈ wsX10_follow := fun w h => List.mem_cons_of_mem _ (List.mem_append_left _ (List.mem_append_right _ h))
theorem iw_X10_follow_X6 : ∀ w ∈ wsX60, w ∈ wsX10_follow := fun w h => List.mem_cons_of_mem _ (List.mem_append_right _ h)
theorem qv_X10_follow : yX10_follow.cls = RX10 ∧ yX10_follow.cls ≠ "java/lang/invoke/MethodHandle" ∧ yX10_follow.cls ≠ "java/lang/invoke/VarHandle" ∧ (parseMethodDescriptor yX10_follow.desc).map (fun d => d.parameters.length) = some 2 := by decide +kernel
def f_X10_follow_22 (N : Nat) (P : Nat → ql_St) : Nat → ql_V → Nat → Int32 → Int32 → Option (ql_V)
  | 0, _, _, _, _ => none
  | n + 1, z, i1, x2, x3 => if x2 < x3 then some z else (f_X6_actAt N (P i1) (z.1 13 0)).bind fun u2 => if ql_ib x3 13 = true then if u2 = ((((z.1 9) x3.toNatClampNeg) / 4) + 1) then if ql_ib x3 13 = true then (f_X6_goes N (P i1) (z.1 13 0) (((z.1 9) x3.toNatClampNeg) - ((z.1 9) x3.toNatClampNeg) / 4 * 4)).bind fun u4 => f_X10_follow_22 N P n ((ql_up (ql_up z.1 12 (fun _ => ((z.1 12 0) + 1))) 13 (fun _ => u4)), z.2.1, z.2.2.1, z.2.2.2.1, z.2.2.2.2.1, z.2.2.2.2.2) i1 x2 (x3 + 1) else none else some z else none
def f_X10_follow_0 (N : Nat) (P : Nat → ql_St) (z : ql_V) (i1 : Nat) (x2 : Int32) : Option (ql_V) := (f_X6_goes N (P i1) 0 ((z.1 9) 0)).bind fun u5 => f_X10_follow_22 N P N ((ql_up (ql_up z.1 12 (fun _ => 0)) 13 (fun _ => u5)), z.2.1, z.2.2.1, z.2.2.2.1, z.2.2.2.2.1, z.2.2.2.2.2) i1 x2 1
def f_X10_follow (N : Nat) (P : Nat → ql_St) (z : ql_V) (i1 : Nat) (x2 : Int32) : Option (ql_V) := f_X10_follow_0 N P z i1 x2
set_option maxHeartbeats 4000000 in
set_option maxRecDepth 100000 in
theorem w_X10_follow_22 {p : Program} {l : Launch} {e : Env} {s : State} {m : MethodId} {args : Array Value} {below : List Frame} {meth : Method} {c : Code} {dC : Nat → ClassId} {dI : Nat → Nat → Nat} {A : Nat → Prop} {h : Nat} {ad : Nat → Nat} {aR : Nat} {adr : Nat → Nat} {aG : Nat} {adg : Nat → Nat} {aX : Nat} {adx : Nat → Nat} {aT : Nat} {kd : Nat → Nat} {cI cJ cB cP cQ : ClassId} {pad : Nat → Nat → Nat} {res : ql_V} (C0 : ql_C p s m args meth c cX10_follow 4 none wsX10_follow RX10 (dC, dI) [(cI, .int), (cJ, .long), (cB, .byte), (cP, .object RX6), (cQ, .object RX5)] A) (N : Nat) (P : Nat → ql_St) : ∀ (n : Nat), ∀ (z : ql_V) (i1 : Nat) (x2 : Int32) (x3 : Int32), i1 < 5 → f_X10_follow_22 N P n z i1 x2 x3 = some res → ∀ (H : Heap) (locs : List Loc) (ls : Array Slot), va_P (dC, dI) vwCl ((ql_cw h ad aR adr aG adg aX adx aT kd cI cJ cB cP cQ pad P) z) H → va_D A ((ql_cw h ad aR adr aG adg aX adx aT kd cI cJ cB cP cQ pad P) z) → va_S A s.heap H locs → lv_has ls 4 [(0, .ref h), (1, .ref (pad i1 100)), (2, .int x2), (3, .int x3)] → W p l e rm_X10_follow s m args below meth c H locs 0 0 (ql_Qv below (dC, dI) (ql_cw h ad aR adr aG adg aX adx aT kd cI cJ cB cP cQ pad P) A args s res) (F0 m 22 ls []) := by
  have C0q := C0
  obtain ⟨hx, hb, hr, hml, hown, hts, hlocks, hK, hA⟩ := C0q
  have fl160 := hts (Cond.fieldLink RX10 160 "TestedLoops" "goesTo" "I") (by decide +kernel)
  have fl66 := hts (Cond.fieldLink RX10 66 "TestedLoops" "digits" "[I") (by decide +kernel)
  have fl157 := hts (Cond.fieldLink RX10 157 "TestedLoops" "came" "I") (by decide +kernel)
  intro n
  induction n with
  | zero =>
    intro z i1 x2 x3 gi1 hf
    rw [f_X10_follow_22] at hf
    cases hf
  | succ n ih =>
    intro z i1 x2 x3 gi1 hf H locs ls hP hD hS hl
    rw [f_X10_follow_22] at hf
    refine lv_iload_n hx hb dX10_follow_22 rfl (lv_at hl 3 rfl) ?_
    refine lv_iload_n hx hb dX10_follow_23 rfl (lv_at hl 2 rfl) ?_
    refine lv_icmp_gt (tgt := 85) hx hb dX10_follow_24 (by decide) (fun c1 => ?_) (fun c1 => ?_)
    · have hf := (if_pos c1).symm.trans hf
      exact ql_vret C0 hf hP hD hS dX10_follow_85
    · have hf := (if_neg c1).symm.trans hf
      refine lv_aload_n hx hb dX10_follow_27 rfl (lv_at hl 1 rfl) ?_
      refine lv_aload_n hx hb dX10_follow_28 rfl (lv_at hl 0 rfl) ?_
      refine va_get (D := (dC, dI)) (ci := 10) (v := .int (z.1 13 0)) (C := RX10) (T := TX10) (N := 13) hx hb hts iw_X10_follow_X10 hown hK.1 hP 0 rfl rfl 12 (by decide) fl160 (fun _ h9 => h9) rfl dX10_follow_29 ?_
      obtain ⟨u2, hu2, hf⟩ := ql_bd hf
      refine ql_callRVi (As := [.int (z.1 13 0)]) (rest := []) C0 (c_X6_actAt l dC dI (pad i1 100) (pad i1) cI N (P i1) (z.1 13 0) u2 hu2) (cwV 1 hts gX10_follow_X6_actAt rfl rfl rfl qv_X6_actAt ⟨Nat.le_of_ble_eq_true rfl, Nat.le_of_ble_eq_true rfl⟩) (va_recv hK.1 (ql_pl 25 hP rfl gi1) (ci := 6) (q0 := 0) rfl rfl) (hK.sub [0] rfl) (ql_pl 25 hP rfl gi1) hS hl.1 rfl rfl (Nat.le_of_ble_eq_true rfl) dX10_follow_32 (fun H1 locs hk hS => ?_)
      have hP := ql_keep hP hk
      refine lv_aload_n hx hb dX10_follow_35 rfl (lv_at hl 0 rfl) ?_
      refine va_get (D := (dC, dI)) (ci := 10) (v := .ref (ad 9)) (C := RX10) (T := TX10) (N := 13) hx hb hts iw_X10_follow_X10 hown hK.1 hP 0 rfl rfl 8 (by decide) fl66 (fun _ h9 => h9) rfl dX10_follow_36 ?_
      refine lv_iload_n hx hb dX10_follow_39 rfl (lv_at hl 3 rfl) ?_
      have g0 := ql_in (ql_gt hf)
      have hf := ql_gx hf
      refine va_iald (f := (z.1 9)) hx hb hK.1 hP 4 0 rfl rfl g0 dX10_follow_40 ?_
      refine lv_iconst (v := 4) hx hb dX10_follow_41 (by decide) ?_
      refine lv_idiv hx hb dX10_follow_42 (by decide) ?_
      refine lv_iconst (v := 1) hx hb dX10_follow_43 (by decide) ?_
      refine lv_iadd hx hb dX10_follow_44 ?_
      refine lv_icmp_eq (tgt := 49) hx hb dX10_follow_45 (by decide) (fun c3 => ?_) (fun c3 => ?_)
      · have hf := (if_pos c3).symm.trans hf
        refine lv_aload_n hx hb dX10_follow_49 rfl (lv_at hl 0 rfl) ?_
        refine lv_dup hx hb dX10_follow_50 rfl ?_
        refine va_get (D := (dC, dI)) (ci := 10) (v := .int (z.1 12 0)) (C := RX10) (T := TX10) (N := 13) hx hb hts iw_X10_follow_X10 hown hK.1 hP 0 rfl rfl 11 (by decide) fl157 (fun _ h9 => h9) rfl dX10_follow_51 ?_
        refine lv_iconst (v := 1) hx hb dX10_follow_54 (by decide) ?_
        refine lv_iadd hx hb dX10_follow_55 ?_
        refine va_put (D := (dC, dI)) (ci := 10) (v := .int ((z.1 12 0) + 1)) (ty := .int) (C := RX10) (T := TX10) (N := 13) hx hb hts iw_X10_follow_X10 tyX10 tyX10_ok nmX10 hown hK.1 hP hD hS 0 rfl rfl 11 (by decide) fl157 (fun _ h9 => h9) rfl (by decide +kernel) rfl rfl (Nat.le_of_ble_eq_true rfl) dX10_follow_56 (fun H locs hP hD hS => ?_)
        refine lv_aload_n hx hb dX10_follow_59 rfl (lv_at hl 0 rfl) ?_
        refine lv_aload_n hx hb dX10_follow_60 rfl (lv_at hl 1 rfl) ?_
        refine lv_aload_n hx hb dX10_follow_61 rfl (lv_at hl 0 rfl) ?_
        refine va_get (D := (dC, dI)) (ci := 10) (v := .int (z.1 13 0)) (C := RX10) (T := TX10) (N := 13) hx hb hts iw_X10_follow_X10 hown hK.1 hP 0 rfl rfl 12 (by decide) fl160 (fun _ h9 => h9) rfl dX10_follow_62 ?_
        refine lv_aload_n hx hb dX10_follow_65 rfl (lv_at hl 0 rfl) ?_
        refine va_get (D := (dC, dI)) (ci := 10) (v := .ref (ad 9)) (C := RX10) (T := TX10) (N := 13) hx hb hts iw_X10_follow_X10 hown hK.1 hP 0 rfl rfl 8 (by decide) fl66 (fun _ h9 => h9) rfl dX10_follow_66 ?_
        refine lv_iload_n hx hb dX10_follow_69 rfl (lv_at hl 3 rfl) ?_
        have g0 := ql_in (ql_gt hf)
        have hf := ql_gx hf
        refine va_iald (f := (z.1 9)) hx hb hK.1 hP 4 0 rfl rfl g0 dX10_follow_70 ?_
        refine lv_iconst (v := 4) hx hb dX10_follow_71 (by decide) ?_
        refine lv_irem hx hb dX10_follow_72 (by decide) ?_
        obtain ⟨u4, hu4, hf⟩ := ql_bd hf
        refine ql_callRVi (As := [.int (z.1 13 0), .int (((z.1 9) x3.toNatClampNeg) - ((z.1 9) x3.toNatClampNeg) / 4 * 4)]) (rest := [.ref h]) C0 (c_X6_goes l dC dI (pad i1 100) (pad i1) cI N (P i1) (z.1 13 0) (((z.1 9) x3.toNatClampNeg) - ((z.1 9) x3.toNatClampNeg) / 4 * 4) u4 hu4) (cwV 2 hts gX10_follow_X6_goes rfl rfl rfl qv_X6_goes ⟨Nat.le_of_ble_eq_true rfl, Nat.le_of_ble_eq_true rfl⟩) (va_recv hK.1 (ql_pl 25 hP rfl gi1) (ci := 6) (q0 := 0) rfl rfl) (hK.sub [0] rfl) (ql_pl 25 hP rfl gi1) hS hl.1 rfl rfl (Nat.le_of_ble_eq_true rfl) dX10_follow_73 (fun H1 locs hk hS => ?_)
        have hP := ql_keep hP hk
        refine va_put (D := (dC, dI)) (ci := 10) (v := .int u4) (ty := .int) (C := RX10) (T := TX10) (N := 13) hx hb hts iw_X10_follow_X10 tyX10 tyX10_ok nmX10 hown hK.1 hP hD hS 0 rfl rfl 12 (by decide) fl160 (fun _ h9 => h9) rfl (by decide +kernel) rfl rfl (Nat.le_of_ble_eq_true rfl) dX10_follow_76 (fun H locs hP hD hS => ?_)
        refine lv_iinc (v := (x3 + 1)) (lv' := [(3, .int (x3 + 1)), (0, .ref h), (1, .ref (pad i1 100)), (2, .int x2)]) hx hb dX10_follow_79 hl (k := 3) rfl rfl (by decide) rfl (fun ls hl => ?_)
        refine lv_goto (tgt := 22) hx hb dX10_follow_82 (by decide) ?_
        exact ih _ _ _ _ gi1 hf _ _ _ hP hD hS (lv_sub hl [1, 2, 3, 0] rfl)
      · have hf := (if_neg c3).symm.trans hf
        exact ql_vret C0 hf hP hD hS dX10_follow_48
set_option maxHeartbeats 4000000 in
set_option maxRecDepth 100000 in
theorem w_X10_follow_0 {p : Program} {l : Launch} {e : Env} {s : State} {m : MethodId} {args : Array Value} {below : List Frame} {meth : Method} {c : Code} {dC : Nat → ClassId} {dI : Nat → Nat → Nat} {A : Nat → Prop} {h : Nat} {ad : Nat → Nat} {aR : Nat} {adr : Nat → Nat} {aG : Nat} {adg : Nat → Nat} {aX : Nat} {adx : Nat → Nat} {aT : Nat} {kd : Nat → Nat} {cI cJ cB cP cQ : ClassId} {pad : Nat → Nat → Nat} {res : ql_V} (C0 : ql_C p s m args meth c cX10_follow 4 none wsX10_follow RX10 (dC, dI) [(cI, .int), (cJ, .long), (cB, .byte), (cP, .object RX6), (cQ, .object RX5)] A) (N : Nat) (P : Nat → ql_St) : ∀ (z : ql_V) (i1 : Nat) (x2 : Int32), i1 < 5 → f_X10_follow_0 N P z i1 x2 = some res → ∀ (H : Heap) (locs : List Loc) (ls : Array Slot), va_P (dC, dI) vwCl ((ql_cw h ad aR adr aG adg aX adx aT kd cI cJ cB cP cQ pad P) z) H → va_D A ((ql_cw h ad aR adr aG adg aX adx aT kd cI cJ cB cP cQ pad P) z) → va_S A s.heap H locs → lv_has ls 4 [(0, .ref h), (1, .ref (pad i1 100)), (2, .int x2)] → W p l e rm_X10_follow s m args below meth c H locs 0 0 (ql_Qv below (dC, dI) (ql_cw h ad aR adr aG adg aX adx aT kd cI cJ cB cP cQ pad P) A args s res) (F0 m 0 ls []) := by
  have C0q := C0
  obtain ⟨hx, hb, hr, hml, hown, hts, hlocks, hK, hA⟩ := C0q
  have fl157 := hts (Cond.fieldLink RX10 157 "TestedLoops" "came" "I") (by decide +kernel)
  have fl66 := hts (Cond.fieldLink RX10 66 "TestedLoops" "digits" "[I") (by decide +kernel)
  have fl160 := hts (Cond.fieldLink RX10 160 "TestedLoops" "goesTo" "I") (by decide +kernel)
  intro z i1 x2 gi1 hf H locs ls hP hD hS hl
  unfold f_X10_follow_0 at hf
  refine lv_aload_n hx hb dX10_follow_0 rfl (lv_at hl 0 rfl) ?_
  refine lv_iconst (v := 0) hx hb dX10_follow_1 (by decide) ?_
  refine va_put (D := (dC, dI)) (ci := 10) (v := .int 0) (ty := .int) (C := RX10) (T := TX10) (N := 13) hx hb hts iw_X10_follow_X10 tyX10 tyX10_ok nmX10 hown hK.1 hP hD hS 0 rfl rfl 11 (by decide) fl157 (fun _ h9 => h9) rfl (by decide +kernel) rfl rfl (Nat.le_of_ble_eq_true rfl) dX10_follow_2 (fun H locs hP hD hS => ?_)
  refine lv_aload_n hx hb dX10_follow_5 rfl (lv_at hl 0 rfl) ?_
  refine lv_aload_n hx hb dX10_follow_6 rfl (lv_at hl 1 rfl) ?_
  refine lv_iconst (v := 0) hx hb dX10_follow_7 (by decide) ?_
  refine lv_aload_n hx hb dX10_follow_8 rfl (lv_at hl 0 rfl) ?_
  refine va_get (D := (dC, dI)) (ci := 10) (v := .ref (ad 9)) (C := RX10) (T := TX10) (N := 13) hx hb hts iw_X10_follow_X10 hown hK.1 hP 0 rfl rfl 8 (by decide) fl66 (fun _ h9 => h9) rfl dX10_follow_9 ?_
  refine lv_iconst (v := 0) hx hb dX10_follow_12 (by decide) ?_
  refine va_iald (f := (z.1 9)) hx hb hK.1 hP 4 0 rfl rfl (ql_in (i := 0) (n := 13) (by decide)) dX10_follow_13 ?_
  refine ql_tv (y := (z.1 9) 0) (congrArg (z.1 9) (by decide)) ?_
  obtain ⟨u5, hu5, hf⟩ := ql_bd hf
  refine ql_callRVi (As := [.int 0, .int ((z.1 9) 0)]) (rest := [.ref h]) C0 (c_X6_goes l dC dI (pad i1 100) (pad i1) cI N (P i1) 0 ((z.1 9) 0) u5 hu5) (cwV 2 hts gX10_follow_X6_goes rfl rfl rfl qv_X6_goes ⟨Nat.le_of_ble_eq_true rfl, Nat.le_of_ble_eq_true rfl⟩) (va_recv hK.1 (ql_pl 25 hP rfl gi1) (ci := 6) (q0 := 0) rfl rfl) (hK.sub [0] rfl) (ql_pl 25 hP rfl gi1) hS hl.1 rfl rfl (Nat.le_of_ble_eq_true rfl) dX10_follow_14 (fun H1 locs hk hS => ?_)
  have hP := ql_keep hP hk
  refine va_put (D := (dC, dI)) (ci := 10) (v := .int u5) (ty := .int) (C := RX10) (T := TX10) (N := 13) hx hb hts iw_X10_follow_X10 tyX10 tyX10_ok nmX10 hown hK.1 hP hD hS 0 rfl rfl 12 (by decide) fl160 (fun _ h9 => h9) rfl (by decide +kernel) rfl rfl (Nat.le_of_ble_eq_true rfl) dX10_follow_17 (fun H locs hP hD hS => ?_)
  refine lv_iconst (v := 1) hx hb dX10_follow_20 (by decide) ?_
  refine lv_istore_n (lv' := [(3, .int 1), (0, .ref h), (1, .ref (pad i1 100)), (2, .int x2)]) hx hb dX10_follow_21 rfl hl (by decide) rfl (fun ls hl => ?_)
  exact w_X10_follow_22 C0 N P N _ _ _ _ gi1 hf _ _ _ hP hD hS (lv_sub hl [1, 2, 3, 0] rfl)
set_option maxRecDepth 100000 in
theorem c_X10_follow (l : Launch) (dC : Nat → ClassId) (dI : Nat → Nat → Nat) (h : Nat) (ad : Nat → Nat) (aR : Nat) (adr : Nat → Nat) (aG : Nat) (adg : Nat → Nat) (aX : Nat) (adx : Nat → Nat) (aT : Nat) (kd : Nat → Nat) (cI cJ cB cP cQ : ClassId) (pad : Nat → Nat → Nat) (N : Nat) (P : Nat → ql_St) (z : ql_V) (i1 : Nat) (x2 : Int32) (gi1 : i1 < 5) (res : ql_V) (hf : f_X10_follow N P z i1 x2 = some res) : ql_Mv l yX10_follow wsX10_follow rm_X10_follow (dC, dI) [(cI, .int), (cJ, .long), (cB, .byte), (cP, .object RX6), (cQ, .object RX5)] (ql_cw h ad aR adr aG adg aX adx aT kd cI cJ cB cP cQ pad P) [.ref h, .ref (pad i1 100), .int x2] z res :=
  ql_start_v (by decide) rfl (Nat.le_of_ble_eq_true rfl) (fun p e s m below meth c A ls C0 hl hP hD hS => w_X10_follow_0 C0 N P z i1 x2 gi1 hf s.heap [] ls hP hD hS (lv_sub (show lv_has ls 4 [(0, .ref h), (1, .ref (pad i1 100)), (2, .int x2)] from hl) [0, 1, 2] rfl))
/-! ===== TestedLoops.lets(IIJ)I ===== -/
abbrev rm_X10_lets : Room := { frames := 3, cells := 0, slots := 0, locals := 67 }
theorem iw_X10_lets_X10 : ∀ w ∈ wsX100, w ∈ wsX10_lets := fun w h => List.mem_cons_of_mem _ (List.mem_append_left _ (List.mem_append_right _ h))
theorem iw_X10_lets_X6 : ∀ w ∈ wsX60, w ∈ wsX10_lets := fun w h => List.mem_cons_of_mem _ (List.mem_append_right _ h)
theorem qv_X10_lets : yX10_lets.cls = RX10 ∧ yX10_lets.cls ≠ "java/lang/invoke/MethodHandle" ∧ yX10_lets.cls ≠ "java/lang/invoke/VarHandle" ∧ (parseMethodDescriptor yX10_lets.desc).map (fun d => d.parameters.length) = some 3 := by decide +kernel
def f_X10_lets_0 (N : Nat) (P : Nat → ql_St) (z : ql_V) (x1 : Int32) (x2 : Int32) (x3 : Int64) : Option (Int32 × ql_V) := (f_X10_isProgram N x1).bind fun u1 => if u1 = 0 then some ((-1), z) else (f_X10_takeRow N P z x2 x3).bind fun u3 => if u3.1 = 0 then some ((-1), u3.2) else if ql_ib x1 4 = true then (f_X10_follow N P u3.2 x1.toNatClampNeg x2).bind fun u6 => if (u6.1 12 0) = x2 then if (u6.1 13 0) = 0 then some (1, u6) else some (0, u6) else some (0, u6) else none
def f_X10_lets (N : Nat) (P : Nat → ql_St) (z : ql_V) (x1 : Int32) (x2 : Int32) (x3 : Int64) : Option (Int32 × ql_V) := f_X10_lets_0 N P z x1 x2 x3
set_option maxHeartbeats 4000000 in
set_option maxRecDepth 100000 in
theorem w_X10_lets_0 {p : Program} {l : Launch} {e : Env} {s : State} {m : MethodId} {args : Array Value} {below : List Frame} {meth : Method} {c : Code} {dC : Nat → ClassId} {dI : Nat → Nat → Nat} {A : Nat → Prop} {h : Nat} {ad : Nat → Nat} {aR : Nat} {adr : Nat → Nat} {aG : Nat} {adg : Nat → Nat} {aX : Nat} {adx : Nat → Nat} {aT : Nat} {kd : Nat → Nat} {cI cJ cB cP cQ : ClassId} {pad : Nat → Nat → Nat} {res : Int32 × ql_V} (C0 : ql_C p s m args meth c cX10_lets 5 (some .int) wsX10_lets RX10 (dC, dI) [(cI, .int), (cJ, .long), (cB, .byte), (cP, .object RX6), (cQ, .object RX5)] A) (N : Nat) (P : Nat → ql_St) : ∀ (z : ql_V) (x1 : Int32) (x2 : Int32) (x3 : Int64), f_X10_lets_0 N P z x1 x2 x3 = some res → ∀ (H : Heap) (locs : List Loc) (ls : Array Slot), va_P (dC, dI) vwCl ((ql_cw h ad aR adr aG adg aX adx aT kd cI cJ cB cP cQ pad P) z) H → va_D A ((ql_cw h ad aR adr aG adg aX adx aT kd cI cJ cB cP cQ pad P) z) → va_S A s.heap H locs → lv_has ls 5 [(0, .ref h), (1, .int x1), (2, .int x2), (3, .long x3)] → W p l e rm_X10_lets s m args below meth c H locs 0 0 (ql_Qi below (dC, dI) (ql_cw h ad aR adr aG adg aX adx aT kd cI cJ cB cP cQ pad P) A args s res) (F0 m 0 ls []) := by
  have C0q := C0
  obtain ⟨hx, hb, hr, hml, hown, hts, hlocks, hK, hA⟩ := C0q
  have fl15 := hts (Cond.fieldLink RX10 15 "TestedLoops" "plans" "[LTestedLoops$Plan;") (by decide +kernel)
  have fl157 := hts (Cond.fieldLink RX10 157 "TestedLoops" "came" "I") (by decide +kernel)
  have fl160 := hts (Cond.fieldLink RX10 160 "TestedLoops" "goesTo" "I") (by decide +kernel)
  intro z x1 x2 x3 hf H locs ls hP hD hS hl
  unfold f_X10_lets_0 at hf
  refine lv_iload_n hx hb dX10_lets_0 rfl (lv_at hl 1 rfl) ?_
  obtain ⟨u1, hu1, hf⟩ := ql_bd hf
  refine ql_callRSi (As := [.int x1]) (rest := []) C0 (c_X10_isProgram l dC dI N x1 u1 hu1) (va_cwS 1 hts gX10_lets_X10_isProgram rfl rfl rfl qd_X10_isProgram ⟨Nat.le_of_ble_eq_true rfl, Nat.le_of_ble_eq_true rfl⟩) (hK.sub [] rfl) ql_nil hS hl.1 rfl rfl (Nat.le_of_ble_eq_true rfl) dX10_lets_1 (fun H1 locs hk hS => ?_)
  have hP := ql_keep hP hk
  refine lv_if_eq (tgt := 16) hx hb dX10_lets_4 (by decide) (fun c2 => ?_) (fun c2 => ?_)
  · have hf := (if_pos c2).symm.trans hf
    refine lv_iconst (v := (-1)) hx hb dX10_lets_16 (by decide) ?_
    exact ql_iret C0 hf hP hD hS dX10_lets_17
  · have hf := (if_neg c2).symm.trans hf
    refine lv_aload_n hx hb dX10_lets_7 rfl (lv_at hl 0 rfl) ?_
    refine lv_iload_n hx hb dX10_lets_8 rfl (lv_at hl 2 rfl) ?_
    refine lv_lload_n hx hb dX10_lets_9 rfl (lv_at hl 3 rfl) ?_
    obtain ⟨u3, hu3, hf⟩ := ql_bd hf
    refine ql_callVi (As := [.int x2, .long x3]) (rest := []) C0 (c_X10_takeRow l dC dI h ad aR adr aG adg aX adx aT kd cI cJ cB cP cQ pad N P z x2 x3 u3 hu3) (cwV 2 hts gX10_lets_X10_takeRow rfl rfl rfl qv_X10_takeRow ⟨Nat.le_of_ble_eq_true rfl, Nat.le_of_ble_eq_true rfl⟩) (va_recv hK.1 hP (ci := 10) (q0 := 0) rfl rfl) hP hD hS hl.1 rfl rfl (Nat.le_of_ble_eq_true rfl) dX10_lets_10 (fun H locs hP hD hS => ?_)
    refine lv_if_ne (tgt := 18) hx hb dX10_lets_13 (by decide) (fun c4 => ?_) (fun c4 => ?_)
    · have hf := (if_neg c4).symm.trans hf
      refine lv_aload_n hx hb dX10_lets_18 rfl (lv_at hl 0 rfl) ?_
      refine lv_aload_n hx hb dX10_lets_19 rfl (lv_at hl 0 rfl) ?_
      refine va_get (D := (dC, dI)) (ci := 10) (v := .ref (ad 2)) (C := RX10) (T := TX10) (N := 13) hx hb hts iw_X10_lets_X10 hown hK.1 hP 0 rfl rfl 2 (by decide) fl15 (fun _ h9 => h9) rfl dX10_lets_20 ?_
      refine lv_iload_n hx hb dX10_lets_23 rfl (lv_at hl 1 rfl) ?_
      have g0 := ql_in (ql_gt hf)
      have hf := ql_gx hf
      have gp5 := ql_lt g0
      refine va_aldq (f := ql_pf pad) hx hb hK.1 hP 2 3 rfl rfl g0 dX10_lets_24 ?_
      refine W.eq (g2 := F0 m 25 ls [.ref (pad x1.toNatClampNeg 100), .ref h]) (by rw [ql_pfv gp5]) ?_
      refine lv_iload_n hx hb dX10_lets_25 rfl (lv_at hl 2 rfl) ?_
      obtain ⟨u6, hu6, hf⟩ := ql_bd hf
      refine ql_callVv (As := [.ref (pad x1.toNatClampNeg 100), .int x2]) (rest := []) C0 (c_X10_follow l dC dI h ad aR adr aG adg aX adx aT kd cI cJ cB cP cQ pad N P u3.2 x1.toNatClampNeg x2 (Nat.lt_of_lt_of_le gp5 (by decide)) u6 hu6) (cwV 2 hts gX10_lets_X10_follow rfl rfl rfl qv_X10_follow ⟨Nat.le_of_ble_eq_true rfl, Nat.le_of_ble_eq_true rfl⟩) (va_recv hK.1 hP (ci := 10) (q0 := 0) rfl rfl) hP hD hS hl.1 rfl rfl (Nat.le_of_ble_eq_true rfl) dX10_lets_26 (fun H locs hP hD hS => ?_)
      refine lv_aload_n hx hb dX10_lets_29 rfl (lv_at hl 0 rfl) ?_
      refine va_get (D := (dC, dI)) (ci := 10) (v := .int (u6.1 12 0)) (C := RX10) (T := TX10) (N := 13) hx hb hts iw_X10_lets_X10 hown hK.1 hP 0 rfl rfl 11 (by decide) fl157 (fun _ h9 => h9) rfl dX10_lets_30 ?_
      refine lv_iload_n hx hb dX10_lets_33 rfl (lv_at hl 2 rfl) ?_
      refine lv_icmp_ne (tgt := 48) hx hb dX10_lets_34 (by decide) (fun c7 => ?_) (fun c7 => ?_)
      · have hf := (if_neg c7).symm.trans hf
        refine lv_iconst (v := 0) hx hb dX10_lets_48 (by decide) ?_
        exact ql_iret C0 hf hP hD hS dX10_lets_49
      · have hf := (if_pos c7).symm.trans hf
        refine lv_aload_n hx hb dX10_lets_37 rfl (lv_at hl 0 rfl) ?_
        refine va_get (D := (dC, dI)) (ci := 10) (v := .int (u6.1 13 0)) (C := RX10) (T := TX10) (N := 13) hx hb hts iw_X10_lets_X10 hown hK.1 hP 0 rfl rfl 12 (by decide) fl160 (fun _ h9 => h9) rfl dX10_lets_38 ?_
        refine lv_if_ne (tgt := 48) hx hb dX10_lets_41 (by decide) (fun c8 => ?_) (fun c8 => ?_)
        · have hf := (if_neg c8).symm.trans hf
          refine lv_iconst (v := 0) hx hb dX10_lets_48 (by decide) ?_
          exact ql_iret C0 hf hP hD hS dX10_lets_49
        · have hf := (if_pos c8).symm.trans hf
          refine lv_iconst (v := 1) hx hb dX10_lets_44 (by decide) ?_
          refine lv_goto (tgt := 49) hx hb dX10_lets_45 (by decide) ?_
          exact ql_iret C0 hf hP hD hS dX10_lets_49
    · have hf := (if_pos c4).symm.trans hf
      refine lv_iconst (v := (-1)) hx hb dX10_lets_16 (by decide) ?_
      exact ql_iret C0 hf hP hD hS dX10_lets_17
set_option maxRecDepth 100000 in
theorem c_X10_lets (l : Launch) (dC : Nat → ClassId) (dI : Nat → Nat → Nat) (h : Nat) (ad : Nat → Nat) (aR : Nat) (adr : Nat → Nat) (aG : Nat) (adg : Nat → Nat) (aX : Nat) (adx : Nat → Nat) (aT : Nat) (kd : Nat → Nat) (cI cJ cB cP cQ : ClassId) (pad : Nat → Nat → Nat) (N : Nat) (P : Nat → ql_St) (z : ql_V) (x1 : Int32) (x2 : Int32) (x3 : Int64) (res : Int32 × ql_V) (hf : f_X10_lets N P z x1 x2 x3 = some res) : ql_Mi l yX10_lets wsX10_lets rm_X10_lets (dC, dI) [(cI, .int), (cJ, .long), (cB, .byte), (cP, .object RX6), (cQ, .object RX5)] (ql_cw h ad aR adr aG adg aX adx aT kd cI cJ cB cP cQ pad P) [.ref h, .int x1, .int x2, .long x3] z res :=
  ql_start_i (by decide) rfl (Nat.le_of_ble_eq_true rfl) (fun p e s m below meth c A ls C0 hl hP hD hS => w_X10_lets_0 C0 N P z x1 x2 x3 hf s.heap [] ls hP hD hS (lv_sub (show lv_has ls 5 [(0, .ref h), (1, .int x1), (2, .int x2), (3, .long x3)] from hl) [0, 1, 2, 3] rfl))
/-! ===== TestedLoops.walk(IIJI)I ===== -/
abbrev rm_X10_walk : Room := { frames := 3, cells := 0, slots := 0, locals := 67 }
theorem iw_X10_walk_X10 : ∀ w ∈ wsX100, w ∈ wsX10_walk := fun w h => List.mem_cons_of_mem _ (List.mem_append_left _ (List.mem_append_right _ h))
theorem iw_X10_walk_X6 : ∀ w ∈ wsX60, w ∈ wsX10_walk := fun w h => List.mem_cons_of_mem _ (List.mem_append_right _ h)
theorem qv_X10_walk : yX10_walk.cls = RX10 ∧ yX10_walk.cls ≠ "java/lang/invoke/MethodHandle" ∧ yX10_walk.cls ≠ "java/lang/invoke/VarHandle" ∧ (parseMethodDescriptor yX10_walk.desc).map (fun d => d.parameters.length) = some 4 := by decide +kernel
def f_X10_walk_0 (N : Nat) (P : Nat → ql_St) (z : ql_V) (x1 : Int32) (x2 : Int32) (x3 : Int64) (x5 : Int32) : Option (Int32 × ql_V) := (f_X10_isProgram N x1).bind fun u1 => if u1 = 0 then some ((-1), z) else (f_X10_takeRow N P z x2 x3).bind fun u3 => if u3.1 = 0 then some ((-1), u3.2) else if x5 < 0 then some ((-1), u3.2) else if x5 ≤ 1 then if ql_ib x1 4 = true then (f_X10_follow N P u3.2 x1.toNatClampNeg x2).bind fun u8 => if x5 = 0 then some ((u8.1 12 0), u8) else some ((u8.1 13 0), u8) else none else some ((-1), u3.2)
def f_X10_walk (N : Nat) (P : Nat → ql_St) (z : ql_V) (x1 : Int32) (x2 : Int32) (x3 : Int64) (x5 : Int32) : Option (Int32 × ql_V) := f_X10_walk_0 N P z x1 x2 x3 x5
set_option maxHeartbeats 4000000 in
set_option maxRecDepth 100000 in
theorem w_X10_walk_0 {p : Program} {l : Launch} {e : Env} {s : State} {m : MethodId} {args : Array Value} {below : List Frame} {meth : Method} {c : Code} {dC : Nat → ClassId} {dI : Nat → Nat → Nat} {A : Nat → Prop} {h : Nat} {ad : Nat → Nat} {aR : Nat} {adr : Nat → Nat} {aG : Nat} {adg : Nat → Nat} {aX : Nat} {adx : Nat → Nat} {aT : Nat} {kd : Nat → Nat} {cI cJ cB cP cQ : ClassId} {pad : Nat → Nat → Nat} {res : Int32 × ql_V} (C0 : ql_C p s m args meth c cX10_walk 6 (some .int) wsX10_walk RX10 (dC, dI) [(cI, .int), (cJ, .long), (cB, .byte), (cP, .object RX6), (cQ, .object RX5)] A) (N : Nat) (P : Nat → ql_St) : ∀ (z : ql_V) (x1 : Int32) (x2 : Int32) (x3 : Int64) (x5 : Int32), f_X10_walk_0 N P z x1 x2 x3 x5 = some res → ∀ (H : Heap) (locs : List Loc) (ls : Array Slot), va_P (dC, dI) vwCl ((ql_cw h ad aR adr aG adg aX adx aT kd cI cJ cB cP cQ pad P) z) H → va_D A ((ql_cw h ad aR adr aG adg aX adx aT kd cI cJ cB cP cQ pad P) z) → va_S A s.heap H locs → lv_has ls 6 [(0, .ref h), (1, .int x1), (2, .int x2), (3, .long x3), (5, .int x5)] → W p l e rm_X10_walk s m args below meth c H locs 0 0 (ql_Qi below (dC, dI) (ql_cw h ad aR adr aG adg aX adx aT kd cI cJ cB cP cQ pad P) A args s res) (F0 m 0 ls []) := by
  have C0q := C0
  obtain ⟨hx, hb, hr, hml, hown, hts, hlocks, hK, hA⟩ := C0q
  have fl15 := hts (Cond.fieldLink RX10 15 "TestedLoops" "plans" "[LTestedLoops$Plan;") (by decide +kernel)
  have fl160 := hts (Cond.fieldLink RX10 160 "TestedLoops" "goesTo" "I") (by decide +kernel)
  have fl157 := hts (Cond.fieldLink RX10 157 "TestedLoops" "came" "I") (by decide +kernel)
  intro z x1 x2 x3 x5 hf H locs ls hP hD hS hl
  unfold f_X10_walk_0 at hf
  refine lv_iload_n hx hb dX10_walk_0 rfl (lv_at hl 1 rfl) ?_
  obtain ⟨u1, hu1, hf⟩ := ql_bd hf
  refine ql_callRSi (As := [.int x1]) (rest := []) C0 (c_X10_isProgram l dC dI N x1 u1 hu1) (va_cwS 1 hts gX10_walk_X10_isProgram rfl rfl rfl qd_X10_isProgram ⟨Nat.le_of_ble_eq_true rfl, Nat.le_of_ble_eq_true rfl⟩) (hK.sub [] rfl) ql_nil hS hl.1 rfl rfl (Nat.le_of_ble_eq_true rfl) dX10_walk_1 (fun H1 locs hk hS => ?_)
  have hP := ql_keep hP hk
  refine lv_if_eq (tgt := 27) hx hb dX10_walk_4 (by decide) (fun c2 => ?_) (fun c2 => ?_)
  · have hf := (if_pos c2).symm.trans hf
    refine lv_iconst (v := (-1)) hx hb dX10_walk_27 (by decide) ?_
    exact ql_iret C0 hf hP hD hS dX10_walk_28
  · have hf := (if_neg c2).symm.trans hf
    refine lv_aload_n hx hb dX10_walk_7 rfl (lv_at hl 0 rfl) ?_
    refine lv_iload_n hx hb dX10_walk_8 rfl (lv_at hl 2 rfl) ?_
    refine lv_lload_n hx hb dX10_walk_9 rfl (lv_at hl 3 rfl) ?_
    obtain ⟨u3, hu3, hf⟩ := ql_bd hf
    refine ql_callVi (As := [.int x2, .long x3]) (rest := []) C0 (c_X10_takeRow l dC dI h ad aR adr aG adg aX adx aT kd cI cJ cB cP cQ pad N P z x2 x3 u3 hu3) (cwV 2 hts gX10_walk_X10_takeRow rfl rfl rfl qv_X10_takeRow ⟨Nat.le_of_ble_eq_true rfl, Nat.le_of_ble_eq_true rfl⟩) (va_recv hK.1 hP (ci := 10) (q0 := 0) rfl rfl) hP hD hS hl.1 rfl rfl (Nat.le_of_ble_eq_true rfl) dX10_walk_10 (fun H locs hP hD hS => ?_)
    refine lv_if_eq (tgt := 27) hx hb dX10_walk_13 (by decide) (fun c4 => ?_) (fun c4 => ?_)
    · have hf := (if_pos c4).symm.trans hf
      refine lv_iconst (v := (-1)) hx hb dX10_walk_27 (by decide) ?_
      exact ql_iret C0 hf hP hD hS dX10_walk_28
    · have hf := (if_neg c4).symm.trans hf
      refine lv_iload hx hb dX10_walk_16 (lv_at hl 4 rfl) ?_
      refine lv_if_lt (tgt := 27) hx hb dX10_walk_18 (by decide) (fun c5 => ?_) (fun c5 => ?_)
      · have hf := (if_pos c5).symm.trans hf
        refine lv_iconst (v := (-1)) hx hb dX10_walk_27 (by decide) ?_
        exact ql_iret C0 hf hP hD hS dX10_walk_28
      · have hf := (if_neg c5).symm.trans hf
        refine lv_iload hx hb dX10_walk_21 (lv_at hl 4 rfl) ?_
        refine lv_iconst (v := 1) hx hb dX10_walk_23 (by decide) ?_
        refine lv_icmp_le (tgt := 29) hx hb dX10_walk_24 (by decide) (fun c6 => ?_) (fun c6 => ?_)
        · have hf := (if_pos c6).symm.trans hf
          refine lv_aload_n hx hb dX10_walk_29 rfl (lv_at hl 0 rfl) ?_
          refine lv_aload_n hx hb dX10_walk_30 rfl (lv_at hl 0 rfl) ?_
          refine va_get (D := (dC, dI)) (ci := 10) (v := .ref (ad 2)) (C := RX10) (T := TX10) (N := 13) hx hb hts iw_X10_walk_X10 hown hK.1 hP 0 rfl rfl 2 (by decide) fl15 (fun _ h9 => h9) rfl dX10_walk_31 ?_
          refine lv_iload_n hx hb dX10_walk_34 rfl (lv_at hl 1 rfl) ?_
          have g0 := ql_in (ql_gt hf)
          have hf := ql_gx hf
          have gp7 := ql_lt g0
          refine va_aldq (f := ql_pf pad) hx hb hK.1 hP 2 3 rfl rfl g0 dX10_walk_35 ?_
          refine W.eq (g2 := F0 m 36 ls [.ref (pad x1.toNatClampNeg 100), .ref h]) (by rw [ql_pfv gp7]) ?_
          refine lv_iload_n hx hb dX10_walk_36 rfl (lv_at hl 2 rfl) ?_
          obtain ⟨u8, hu8, hf⟩ := ql_bd hf
          refine ql_callVv (As := [.ref (pad x1.toNatClampNeg 100), .int x2]) (rest := []) C0 (c_X10_follow l dC dI h ad aR adr aG adg aX adx aT kd cI cJ cB cP cQ pad N P u3.2 x1.toNatClampNeg x2 (Nat.lt_of_lt_of_le gp7 (by decide)) u8 hu8) (cwV 2 hts gX10_walk_X10_follow rfl rfl rfl qv_X10_follow ⟨Nat.le_of_ble_eq_true rfl, Nat.le_of_ble_eq_true rfl⟩) (va_recv hK.1 hP (ci := 10) (q0 := 0) rfl rfl) hP hD hS hl.1 rfl rfl (Nat.le_of_ble_eq_true rfl) dX10_walk_37 (fun H locs hP hD hS => ?_)
          refine lv_iload hx hb dX10_walk_40 (lv_at hl 4 rfl) ?_
          refine lv_if_ne (tgt := 52) hx hb dX10_walk_42 (by decide) (fun c9 => ?_) (fun c9 => ?_)
          · have hf := (if_neg c9).symm.trans hf
            refine lv_aload_n hx hb dX10_walk_52 rfl (lv_at hl 0 rfl) ?_
            refine va_get (D := (dC, dI)) (ci := 10) (v := .int (u8.1 13 0)) (C := RX10) (T := TX10) (N := 13) hx hb hts iw_X10_walk_X10 hown hK.1 hP 0 rfl rfl 12 (by decide) fl160 (fun _ h9 => h9) rfl dX10_walk_53 ?_
            exact ql_iret C0 hf hP hD hS dX10_walk_56
          · have hf := (if_pos c9).symm.trans hf
            refine lv_aload_n hx hb dX10_walk_45 rfl (lv_at hl 0 rfl) ?_
            refine va_get (D := (dC, dI)) (ci := 10) (v := .int (u8.1 12 0)) (C := RX10) (T := TX10) (N := 13) hx hb hts iw_X10_walk_X10 hown hK.1 hP 0 rfl rfl 11 (by decide) fl157 (fun _ h9 => h9) rfl dX10_walk_46 ?_
            refine lv_goto (tgt := 56) hx hb dX10_walk_49 (by decide) ?_
            exact ql_iret C0 hf hP hD hS dX10_walk_56
        · have hf := (if_neg c6).symm.trans hf
          refine lv_iconst (v := (-1)) hx hb dX10_walk_27 (by decide) ?_
          exact ql_iret C0 hf hP hD hS dX10_walk_28
set_option maxRecDepth 100000 in
theorem c_X10_walk (l : Launch) (dC : Nat → ClassId) (dI : Nat → Nat → Nat) (h : Nat) (ad : Nat → Nat) (aR : Nat) (adr : Nat → Nat) (aG : Nat) (adg : Nat → Nat) (aX : Nat) (adx : Nat → Nat) (aT : Nat) (kd : Nat → Nat) (cI cJ cB cP cQ : ClassId) (pad : Nat → Nat → Nat) (N : Nat) (P : Nat → ql_St) (z : ql_V) (x1 : Int32) (x2 : Int32) (x3 : Int64) (x5 : Int32) (res : Int32 × ql_V) (hf : f_X10_walk N P z x1 x2 x3 x5 = some res) : ql_Mi l yX10_walk wsX10_walk rm_X10_walk (dC, dI) [(cI, .int), (cJ, .long), (cB, .byte), (cP, .object RX6), (cQ, .object RX5)] (ql_cw h ad aR adr aG adg aX adx aT kd cI cJ cB cP cQ pad P) [.ref h, .int x1, .int x2, .long x3, .int x5] z res :=
  ql_start_i (by decide) rfl (Nat.le_of_ble_eq_true rfl) (fun p e s m below meth c A ls C0 hl hP hD hS => w_X10_walk_0 C0 N P z x1 x2 x3 x5 hf s.heap [] ls hP hD hS (lv_sub (show lv_has ls 6 [(0, .ref h), (1, .int x1), (2, .int x2), (3, .long x3), (5, .int x5)] from hl) [0, 1, 2, 3, 4] rfl))
/-! ===== TestedLoops.count(I)I ===== -/
abbrev rm_X10_count : Room := { frames := 0, cells := 0, slots := 0, locals := 0 }
theorem iw_X10_count_X10 : ∀ w ∈ wsX100, w ∈ wsX10_count := fun w h => List.mem_cons_of_mem _ (List.mem_append_left _ (List.mem_append_right _ h))
theorem iw_X10_count_X6 : ∀ w ∈ wsX60, w ∈ wsX10_count := fun w h => List.mem_cons_of_mem _ (List.mem_append_right _ h)
theorem qv_X10_count : yX10_count.cls = RX10 ∧ yX10_count.cls ≠ "java/lang/invoke/MethodHandle" ∧ yX10_count.cls ≠ "java/lang/invoke/VarHandle" ∧ (parseMethodDescriptor yX10_count.desc).map (fun d => d.parameters.length) = some 1 := by decide +kernel
def f_X10_count_20 (N : Nat) (P : Nat → ql_St) (z : ql_V) : Nat → Int32 → Int32 → Option (Int32)
  | 0, _, _ => none
  | n + 1, x2, x3 => if 4 ≤ x3 then some x2 else if ql_ib x3 4 = true then f_X10_count_20 N P z n (x2 + (P x3.toNatClampNeg 6 0)) (x3 + 1) else none
def f_X10_count_0 (N : Nat) (P : Nat → ql_St) (z : ql_V) (x1 : Int32) : Option (Int32) := if x1 = 1 then some (z.1 1 0) else if x1 = 0 then f_X10_count_20 N P z N 0 0 else some (-1)
def f_X10_count (N : Nat) (P : Nat → ql_St) (z : ql_V) (x1 : Int32) : Option (Int32) := f_X10_count_0 N P z x1
set_option maxHeartbeats 4000000 in
set_option maxRecDepth 100000 in
theorem w_X10_count_20 {p : Program} {l : Launch} {e : Env} {s : State} {m : MethodId} {args : Array Value} {below : List Frame} {meth : Method} {c : Code} {dC : Nat → ClassId} {dI : Nat → Nat → Nat} {A : Nat → Prop} {h : Nat} {ad : Nat → Nat} {aR : Nat} {adr : Nat → Nat} {aG : Nat} {adg : Nat → Nat} {aX : Nat} {adx : Nat → Nat} {aT : Nat} {kd : Nat → Nat} {cI cJ cB cP cQ : ClassId} {pad : Nat → Nat → Nat} {res : Int32} (C0 : ql_C p s m args meth c cX10_count 4 (some .int) wsX10_count RX10 (dC, dI) [(cI, .int), (cJ, .long), (cB, .byte), (cP, .object RX6), (cQ, .object RX5)] A) (N : Nat) (P : Nat → ql_St) (z : ql_V) : ∀ (n : Nat), ∀ (x2 : Int32) (x3 : Int32), f_X10_count_20 N P z n x2 x3 = some res → ∀ (H : Heap) (locs : List Loc) (ls : Array Slot), va_P (dC, dI) vwCl ((ql_cw h ad aR adr aG adg aX adx aT kd cI cJ cB cP cQ pad P) z) H → va_S A s.heap H locs → lv_has ls 4 [(0, .ref h), (2, .int x2), (3, .int x3)] → W p l e rm_X10_count s m args below meth c H locs 0 0 (ql_Qri below A args s res) (F0 m 20 ls []) := by
  have C0q := C0
  obtain ⟨hx, hb, hr, hml, hown, hts, hlocks, hK, hA⟩ := C0q
  have fl15 := hts (Cond.fieldLink RX10 15 "TestedLoops" "plans" "[LTestedLoops$Plan;") (by decide +kernel)
  have fl94 := hts (Cond.fieldLink RX10 94 "TestedLoops$Plan" "places" "I") (by decide +kernel)
  intro n
  induction n with
  | zero =>
    intro x2 x3 hf
    rw [f_X10_count_20] at hf
    cases hf
  | succ n ih =>
    intro x2 x3 hf H locs ls hP hS hl
    rw [f_X10_count_20] at hf
    refine lv_iload_n hx hb dX10_count_20 rfl (lv_at hl 2 rfl) ?_
    refine lv_iconst (v := 4) hx hb dX10_count_21 (by decide) ?_
    refine lv_icmp_ge (tgt := 43) hx hb dX10_count_22 (by decide) (fun c1 => ?_) (fun c1 => ?_)
    · have hf := (if_pos c1).symm.trans hf
      refine lv_iload_n hx hb dX10_count_43 rfl (lv_at hl 1 rfl) ?_
      exact ql_riret C0 hf hS dX10_count_44
    · have hf := (if_neg c1).symm.trans hf
      refine lv_iload_n hx hb dX10_count_25 rfl (lv_at hl 1 rfl) ?_
      refine lv_aload_n hx hb dX10_count_26 rfl (lv_at hl 0 rfl) ?_
      refine va_get (D := (dC, dI)) (ci := 10) (v := .ref (ad 2)) (C := RX10) (T := TX10) (N := 13) hx hb hts iw_X10_count_X10 hown hK.1 hP 0 rfl rfl 2 (by decide) fl15 (fun _ h9 => h9) rfl dX10_count_27 ?_
      refine lv_iload_n hx hb dX10_count_30 rfl (lv_at hl 2 rfl) ?_
      have g0 := ql_in (ql_gt hf)
      have hf := ql_gx hf
      have gp2 := ql_lt g0
      refine va_aldq (f := ql_pf pad) hx hb hK.1 hP 2 3 rfl rfl g0 dX10_count_31 ?_
      refine W.eq (g2 := F0 m 32 ls [.ref (pad x3.toNatClampNeg 100), .int x2]) (by rw [ql_pfv gp2]) ?_
      refine va_get (D := (dC, dI)) (ci := 6) (v := .int (P x3.toNatClampNeg 6 0)) (C := RX6) (T := TX6) (N := 10) hx hb hts iw_X10_count_X6 hown hK.1 (ql_pl 25 hP rfl (Nat.lt_of_lt_of_le gp2 (by decide))) 0 rfl rfl 6 (by decide) fl94 (fun _ h9 => h9) rfl dX10_count_32 ?_
      refine lv_iadd hx hb dX10_count_35 ?_
      refine lv_istore_n (lv' := [(2, .int (x2 + (P x3.toNatClampNeg 6 0))), (0, .ref h), (3, .int x3)]) hx hb dX10_count_36 rfl hl (by decide) rfl (fun ls hl => ?_)
      refine lv_iinc (v := (x3 + 1)) (lv' := [(3, .int (x3 + 1)), (2, .int (x2 + (P x3.toNatClampNeg 6 0))), (0, .ref h)]) hx hb dX10_count_37 hl (k := 2) rfl rfl (by decide) rfl (fun ls hl => ?_)
      refine lv_goto (tgt := 20) hx hb dX10_count_40 (by decide) ?_
      exact ih _ _ hf _ _ _ hP hS (lv_sub hl [2, 1, 0] rfl)
set_option maxHeartbeats 4000000 in
set_option maxRecDepth 100000 in
theorem w_X10_count_0 {p : Program} {l : Launch} {e : Env} {s : State} {m : MethodId} {args : Array Value} {below : List Frame} {meth : Method} {c : Code} {dC : Nat → ClassId} {dI : Nat → Nat → Nat} {A : Nat → Prop} {h : Nat} {ad : Nat → Nat} {aR : Nat} {adr : Nat → Nat} {aG : Nat} {adg : Nat → Nat} {aX : Nat} {adx : Nat → Nat} {aT : Nat} {kd : Nat → Nat} {cI cJ cB cP cQ : ClassId} {pad : Nat → Nat → Nat} {res : Int32} (C0 : ql_C p s m args meth c cX10_count 4 (some .int) wsX10_count RX10 (dC, dI) [(cI, .int), (cJ, .long), (cB, .byte), (cP, .object RX6), (cQ, .object RX5)] A) (N : Nat) (P : Nat → ql_St) (z : ql_V) : ∀ (x1 : Int32), f_X10_count_0 N P z x1 = some res → ∀ (H : Heap) (locs : List Loc) (ls : Array Slot), va_P (dC, dI) vwCl ((ql_cw h ad aR adr aG adg aX adx aT kd cI cJ cB cP cQ pad P) z) H → va_S A s.heap H locs → lv_has ls 4 [(0, .ref h), (1, .int x1)] → W p l e rm_X10_count s m args below meth c H locs 0 0 (ql_Qri below A args s res) (F0 m 0 ls []) := by
  have C0q := C0
  obtain ⟨hx, hb, hr, hml, hown, hts, hlocks, hK, hA⟩ := C0q
  have fl78 := hts (Cond.fieldLink RX10 78 "TestedLoops" "length" "I") (by decide +kernel)
  intro x1 hf H locs ls hP hS hl
  unfold f_X10_count_0 at hf
  refine lv_iload_n hx hb dX10_count_0 rfl (lv_at hl 1 rfl) ?_
  refine lv_iconst (v := 1) hx hb dX10_count_1 (by decide) ?_
  refine lv_icmp_ne (tgt := 10) hx hb dX10_count_2 (by decide) (fun c3 => ?_) (fun c3 => ?_)
  · have hf := (if_neg c3).symm.trans hf
    refine lv_iload_n hx hb dX10_count_10 rfl (lv_at hl 1 rfl) ?_
    refine lv_if_eq (tgt := 16) hx hb dX10_count_11 (by decide) (fun c4 => ?_) (fun c4 => ?_)
    · have hf := (if_pos c4).symm.trans hf
      refine lv_iconst (v := 0) hx hb dX10_count_16 (by decide) ?_
      refine lv_istore_n (lv' := [(2, .int 0), (0, .ref h), (1, .int x1)]) hx hb dX10_count_17 rfl hl (by decide) rfl (fun ls hl => ?_)
      refine lv_iconst (v := 0) hx hb dX10_count_18 (by decide) ?_
      refine lv_istore_n (lv' := [(3, .int 0), (2, .int 0), (0, .ref h), (1, .int x1)]) hx hb dX10_count_19 rfl hl (by decide) rfl (fun ls hl => ?_)
      exact w_X10_count_20 C0 N P z N _ _ hf _ _ _ hP hS (lv_sub hl [2, 1, 0] rfl)
    · have hf := (if_neg c4).symm.trans hf
      refine lv_iconst (v := (-1)) hx hb dX10_count_14 (by decide) ?_
      exact ql_riret C0 hf hS dX10_count_15
  · have hf := (if_pos c3).symm.trans hf
    refine lv_aload_n hx hb dX10_count_5 rfl (lv_at hl 0 rfl) ?_
    refine va_get (D := (dC, dI)) (ci := 10) (v := .int (z.1 1 0)) (C := RX10) (T := TX10) (N := 13) hx hb hts iw_X10_count_X10 hown hK.1 hP 0 rfl rfl 1 (by decide) fl78 (fun _ h9 => h9) rfl dX10_count_6 ?_
    exact ql_riret C0 hf hS dX10_count_9
set_option maxRecDepth 100000 in
theorem c_X10_count (l : Launch) (dC : Nat → ClassId) (dI : Nat → Nat → Nat) (h : Nat) (ad : Nat → Nat) (aR : Nat) (adr : Nat → Nat) (aG : Nat) (adg : Nat → Nat) (aX : Nat) (adx : Nat → Nat) (aT : Nat) (kd : Nat → Nat) (cI cJ cB cP cQ : ClassId) (pad : Nat → Nat → Nat) (N : Nat) (P : Nat → ql_St) (z : ql_V) (x1 : Int32) (res : Int32) (hf : f_X10_count N P z x1 = some res) : ql_Ri l yX10_count wsX10_count rm_X10_count (dC, dI) [(cI, .int), (cJ, .long), (cB, .byte), (cP, .object RX6), (cQ, .object RX5)] ((ql_cw h ad aR adr aG adg aX adx aT kd cI cJ cB cP cQ pad P) z) [.ref h, .int x1] res :=
  ql_start_ri (by decide) rfl (Nat.le_of_ble_eq_true rfl) (fun p e s m below meth c A ls C0 hl hP hS => w_X10_count_0 C0 N P z x1 hf s.heap [] ls hP hS (lv_sub (show lv_has ls 4 [(0, .ref h), (1, .int x1)] from hl) [0, 1] rfl))
/-! ===== TestedLoops.trace()J ===== -/
abbrev rm_X10_trace : Room := { frames := 0, cells := 0, slots := 0, locals := 0 }
theorem iw_X10_trace_X10 : ∀ w ∈ wsX100, w ∈ wsX10_trace := fun w h => List.mem_cons_of_mem _ (List.mem_append_left _ (List.mem_append_right _ h))
theorem iw_X10_trace_X8 : ∀ w ∈ wsX80, w ∈ wsX10_trace := fun w h => List.mem_cons_of_mem _ (List.mem_append_right _ h)
theorem qv_X10_trace : yX10_trace.cls = RX10 ∧ yX10_trace.cls ≠ "java/lang/invoke/MethodHandle" ∧ yX10_trace.cls ≠ "java/lang/invoke/VarHandle" ∧ (parseMethodDescriptor yX10_trace.desc).map (fun d => d.parameters.length) = some 0 := by decide +kernel
def f_X10_trace_0 (N : Nat) (P : Nat → ql_St) (z : ql_V) : Option (Int64) := some (z.2.1 100 0)
def f_X10_trace (N : Nat) (P : Nat → ql_St) (z : ql_V) : Option (Int64) := f_X10_trace_0 N P z
set_option maxHeartbeats 4000000 in
set_option maxRecDepth 100000 in
theorem w_X10_trace_0 {p : Program} {l : Launch} {e : Env} {s : State} {m : MethodId} {args : Array Value} {below : List Frame} {meth : Method} {c : Code} {dC : Nat → ClassId} {dI : Nat → Nat → Nat} {A : Nat → Prop} {h : Nat} {ad : Nat → Nat} {aR : Nat} {adr : Nat → Nat} {aG : Nat} {adg : Nat → Nat} {aX : Nat} {adx : Nat → Nat} {aT : Nat} {kd : Nat → Nat} {cI cJ cB cP cQ : ClassId} {pad : Nat → Nat → Nat} {res : Int64} (C0 : ql_C p s m args meth c cX10_trace 1 (some .long) wsX10_trace RX10 (dC, dI) [(cI, .int), (cJ, .long), (cB, .byte), (cP, .object RX6), (cQ, .object RX5)] A) (N : Nat) (P : Nat → ql_St) (z : ql_V) : f_X10_trace_0 N P z = some res → ∀ (H : Heap) (locs : List Loc) (ls : Array Slot), va_P (dC, dI) vwCl ((ql_cw h ad aR adr aG adg aX adx aT kd cI cJ cB cP cQ pad P) z) H → va_S A s.heap H locs → lv_has ls 1 [(0, .ref h)] → W p l e rm_X10_trace s m args below meth c H locs 0 0 (ql_Qrl below A args s res) (F0 m 0 ls []) := by
  have C0q := C0
  obtain ⟨hx, hb, hr, hml, hown, hts, hlocks, hK, hA⟩ := C0q
  have fl62 := hts (Cond.fieldLink RX10 62 "TestedLoops" "trace" "LTestedLoops$Trace;") (by decide +kernel)
  have fl176 := hts (Cond.fieldLink RX10 176 "TestedLoops$Trace" "sum" "J") (by decide +kernel)
  intro hf H locs ls hP hS hl
  unfold f_X10_trace_0 at hf
  refine lv_aload_n hx hb dX10_trace_0 rfl (lv_at hl 0 rfl) ?_
  refine va_get (D := (dC, dI)) (ci := 10) (v := .ref aT) (C := RX10) (T := TX10) (N := 13) hx hb hts iw_X10_trace_X10 hown hK.1 hP 0 rfl rfl 7 (by decide) fl62 (fun _ h9 => h9) rfl dX10_trace_1 ?_
  refine va_get (D := (dC, dI)) (ci := 8) (v := .long (z.2.1 100 0)) (C := RX8) (T := TX8) (N := 1) hx hb hts iw_X10_trace_X8 hown hK.1 hP 7 rfl rfl 0 (by decide) fl176 (fun _ h9 => h9) rfl dX10_trace_4 ?_
  exact ql_rlret C0 hf hS dX10_trace_7
set_option maxRecDepth 100000 in
theorem c_X10_trace (l : Launch) (dC : Nat → ClassId) (dI : Nat → Nat → Nat) (h : Nat) (ad : Nat → Nat) (aR : Nat) (adr : Nat → Nat) (aG : Nat) (adg : Nat → Nat) (aX : Nat) (adx : Nat → Nat) (aT : Nat) (kd : Nat → Nat) (cI cJ cB cP cQ : ClassId) (pad : Nat → Nat → Nat) (N : Nat) (P : Nat → ql_St) (z : ql_V) (res : Int64) (hf : f_X10_trace N P z = some res) : ql_Rl l yX10_trace wsX10_trace rm_X10_trace (dC, dI) [(cI, .int), (cJ, .long), (cB, .byte), (cP, .object RX6), (cQ, .object RX5)] ((ql_cw h ad aR adr aG adg aX adx aT kd cI cJ cB cP cQ pad P) z) [.ref h] res :=
  ql_start_rl (by decide) rfl (Nat.le_of_ble_eq_true rfl) (fun p e s m below meth c A ls C0 hl hP hS => w_X10_trace_0 C0 N P z hf s.heap [] ls hP hS (lv_sub (show lv_has ls 1 [(0, .ref h)] from hl) [0] rfl))
/-! ===== TestedLoops.lengthenWays(LTestedLoops$Plan;)V ===== -/
abbrev rm_X10_lengthenWays : Room := { frames := 2, cells := 0, slots := 0, locals := 44 }
theorem iw_X10_lengthenWays_X6 : ∀ w ∈ wsX60, w ∈ wsX10_lengthenWays := fun w h => List.mem_cons_of_mem _ (List.mem_append_left _ (List.mem_append_right _ h))
theorem iw_X10_lengthenWays_X10 : ∀ w ∈ wsX100, w ∈ wsX10_lengthenWays := fun w h => List.mem_cons_of_mem _ (List.mem_append_right _ h)
theorem qv_X10_lengthenWays : yX10_lengthenWays.cls = RX10 ∧ yX10_lengthenWays.cls ≠ "java/lang/invoke/MethodHandle" ∧ yX10_lengthenWays.cls ≠ "java/lang/invoke/VarHandle" ∧ (parseMethodDescriptor yX10_lengthenWays.desc).map (fun d => d.parameters.length) = some 1 := by decide +kernel
def f_X10_lengthenWays_51 (N : Nat) (P : Nat → ql_St) (k2 : ql_V → Nat → Int32 → Option (ql_V)) (k15 : ql_V → Nat → Int32 → Int64 → Int32 → Option (ql_V)) (z : ql_V) (i1 : Nat) (x2 : Int32) (x5 : Int32) (y0 : Int64) (y1 : Int64) : Option (ql_V) := k15 z i1 x2 (y1 + y0) (x5 + 1)
def f_X10_lengthenWays_15 (N : Nat) (P : Nat → ql_St) (k2 : ql_V → Nat → Int32 → Option (ql_V)) : Nat → ql_V → Nat → Int32 → Int64 → Int32 → Option (ql_V)
  | 0, _, _, _, _, _ => none
  | n + 1, z, i1, x2, x3, x5 => if 4 ≤ x5 then if ql_ib x2 17 = true then k2 (z.1, (ql_uq z.2.1 11 (vp_updL (z.2.1 11) x2.toNatClampNeg x3)), z.2.2.1, z.2.2.2.1, z.2.2.2.2.1, z.2.2.2.2.2) i1 (x2 + 1) else none else (f_X6_goes N (P i1) x2 x5).bind fun u2 => (f_X6_isPlace N (P i1) u2).bind fun u3 => if u3 = 0 then f_X10_lengthenWays_51 N P k2 (f_X10_lengthenWays_15 N P k2 n) z i1 x2 x5 0 x3 else if ql_ib u2 17 = true then f_X10_lengthenWays_51 N P k2 (f_X10_lengthenWays_15 N P k2 n) z i1 x2 x5 ((z.2.1 10) u2.toNatClampNeg) x3 else none
def f_X10_lengthenWays_2 (N : Nat) (P : Nat → ql_St) : Nat → ql_V → Nat → Int32 → Option (ql_V)
  | 0, _, _, _ => none
  | n + 1, z, i1, x2 => if (P i1 6 0) < x2 then if ql_ig ((P i1 6 0) + 1) 17 = true then some (z.1, (ql_uq z.2.1 10 (va_cpy (z.2.1 11) (z.2.1 10) 0 0 ((P i1 6 0) + 1).toNatClampNeg)), z.2.2.1, z.2.2.2.1, z.2.2.2.2.1, z.2.2.2.2.2) else none else f_X10_lengthenWays_15 N P (f_X10_lengthenWays_2 N P n) N z i1 x2 0 0
def f_X10_lengthenWays_0 (N : Nat) (P : Nat → ql_St) (z : ql_V) (i1 : Nat) : Option (ql_V) := f_X10_lengthenWays_2 N P N z i1 0
def f_X10_lengthenWays (N : Nat) (P : Nat → ql_St) (z : ql_V) (i1 : Nat) : Option (ql_V) := f_X10_lengthenWays_0 N P z i1
set_option maxHeartbeats 4000000 in
set_option maxRecDepth 100000 in
theorem w_X10_lengthenWays_51 {p : Program} {l : Launch} {e : Env} {s : State} {m : MethodId} {args : Array Value} {below : List Frame} {meth : Method} {c : Code} {dC : Nat → ClassId} {dI : Nat → Nat → Nat} {A : Nat → Prop} {h : Nat} {ad : Nat → Nat} {aR : Nat} {adr : Nat → Nat} {aG : Nat} {adg : Nat → Nat} {aX : Nat} {adx : Nat → Nat} {aT : Nat} {kd : Nat → Nat} {cI cJ cB cP cQ : ClassId} {pad : Nat → Nat → Nat} {res : ql_V} (C0 : ql_C p s m args meth c cX10_lengthenWays 7 none wsX10_lengthenWays RX10 (dC, dI) [(cI, .int), (cJ, .long), (cB, .byte), (cP, .object RX6), (cQ, .object RX5)] A) (N : Nat) (P : Nat → ql_St) (k2 : ql_V → Nat → Int32 → Option (ql_V)) (hk2 : ∀ (z : ql_V) (i1 : Nat) (x2 : Int32), i1 < 5 → k2 z i1 x2 = some res → ∀ (H : Heap) (locs : List Loc) (ls : Array Slot), va_P (dC, dI) vwCl ((ql_cw h ad aR adr aG adg aX adx aT kd cI cJ cB cP cQ pad P) z) H → va_D A ((ql_cw h ad aR adr aG adg aX adx aT kd cI cJ cB cP cQ pad P) z) → va_S A s.heap H locs → lv_has ls 7 [(0, .ref h), (1, .ref (pad i1 100)), (2, .int x2)] → W p l e rm_X10_lengthenWays s m args below meth c H locs 0 0 (ql_Qv below (dC, dI) (ql_cw h ad aR adr aG adg aX adx aT kd cI cJ cB cP cQ pad P) A args s res) (F0 m 2 ls [])) (k15 : ql_V → Nat → Int32 → Int64 → Int32 → Option (ql_V)) (hk15 : ∀ (z : ql_V) (i1 : Nat) (x2 : Int32) (x3 : Int64) (x5 : Int32), i1 < 5 → k15 z i1 x2 x3 x5 = some res → ∀ (H : Heap) (locs : List Loc) (ls : Array Slot), va_P (dC, dI) vwCl ((ql_cw h ad aR adr aG adg aX adx aT kd cI cJ cB cP cQ pad P) z) H → va_D A ((ql_cw h ad aR adr aG adg aX adx aT kd cI cJ cB cP cQ pad P) z) → va_S A s.heap H locs → lv_has ls 7 [(0, .ref h), (1, .ref (pad i1 100)), (2, .int x2), (3, .long x3), (5, .int x5)] → W p l e rm_X10_lengthenWays s m args below meth c H locs 0 0 (ql_Qv below (dC, dI) (ql_cw h ad aR adr aG adg aX adx aT kd cI cJ cB cP cQ pad P) A args s res) (F0 m 15 ls [])) : ∀ (z : ql_V) (i1 : Nat) (x2 : Int32) (x5 : Int32) (y0 : Int64) (y1 : Int64), i1 < 5 → f_X10_lengthenWays_51 N P k2 k15 z i1 x2 x5 y0 y1 = some res → ∀ (H : Heap) (locs : List Loc) (ls : Array Slot), va_P (dC, dI) vwCl ((ql_cw h ad aR adr aG adg aX adx aT kd cI cJ cB cP cQ pad P) z) H → va_D A ((ql_cw h ad aR adr aG adg aX adx aT kd cI cJ cB cP cQ pad P) z) → va_S A s.heap H locs → lv_has ls 7 [(0, .ref h), (1, .ref (pad i1 100)), (2, .int x2), (5, .int x5)] → W p l e rm_X10_lengthenWays s m args below meth c H locs 0 0 (ql_Qv below (dC, dI) (ql_cw h ad aR adr aG adg aX adx aT kd cI cJ cB cP cQ pad P) A args s res) (F0 m 51 ls [.long y0, .long y1]) := by
  have C0q := C0
  obtain ⟨hx, hb, hr, hml, hown, hts, hlocks, hK, hA⟩ := C0q
  intro z i1 x2 x5 y0 y1 gi1 hf H locs ls hP hD hS hl
  unfold f_X10_lengthenWays_51 at hf
  refine lv_ladd hx hb dX10_lengthenWays_51 ?_
  refine lv_lstore_n (lv' := [(3, .long (y1 + y0)), (0, .ref h), (1, .ref (pad i1 100)), (2, .int x2), (5, .int x5)]) hx hb dX10_lengthenWays_52 rfl hl (by decide) rfl (fun ls hl => ?_)
  refine lv_iinc (v := (x5 + 1)) (lv' := [(5, .int (x5 + 1)), (3, .long (y1 + y0)), (0, .ref h), (1, .ref (pad i1 100)), (2, .int x2)]) hx hb dX10_lengthenWays_53 hl (k := 4) rfl rfl (by decide) rfl (fun ls hl => ?_)
  refine lv_goto (tgt := 15) hx hb dX10_lengthenWays_56 (by decide) ?_
  exact hk15 _ _ _ _ _ gi1 hf _ _ _ hP hD hS (lv_sub hl [2, 3, 4, 1, 0] rfl)
set_option maxHeartbeats 4000000 in
set_option maxRecDepth 100000 in
theorem w_X10_lengthenWays_15 {p : Program} {l : Launch} {e : Env} {s : State} {m : MethodId} {args : Array Value} {below : List Frame} {meth : Method} {c : Code} {dC : Nat → ClassId} {dI : Nat → Nat → Nat} {A : Nat → Prop} {h : Nat} {ad : Nat → Nat} {aR : Nat} {adr : Nat → Nat} {aG : Nat} {adg : Nat → Nat} {aX : Nat} {adx : Nat → Nat} {aT : Nat} {kd : Nat → Nat} {cI cJ cB cP cQ : ClassId} {pad : Nat → Nat → Nat} {res : ql_V} (C0 : ql_C p s m args meth c cX10_lengthenWays 7 none wsX10_lengthenWays RX10 (dC, dI) [(cI, .int), (cJ, .long), (cB, .byte), (cP, .object RX6), (cQ, .object RX5)] A) (N : Nat) (P : Nat → ql_St) (k2 : ql_V → Nat → Int32 → Option (ql_V)) (hk2 : ∀ (z : ql_V) (i1 : Nat) (x2 : Int32), i1 < 5 → k2 z i1 x2 = some res → ∀ (H : Heap) (locs : List Loc) (ls : Array Slot), va_P (dC, dI) vwCl ((ql_cw h ad aR adr aG adg aX adx aT kd cI cJ cB cP cQ pad P) z) H → va_D A ((ql_cw h ad aR adr aG adg aX adx aT kd cI cJ cB cP cQ pad P) z) → va_S A s.heap H locs → lv_has ls 7 [(0, .ref h), (1, .ref (pad i1 100)), (2, .int x2)] → W p l e rm_X10_lengthenWays s m args below meth c H locs 0 0 (ql_Qv below (dC, dI) (ql_cw h ad aR adr aG adg aX adx aT kd cI cJ cB cP cQ pad P) A args s res) (F0 m 2 ls [])) : ∀ (n : Nat), ∀ (z : ql_V) (i1 : Nat) (x2 : Int32) (x3 : Int64) (x5 : Int32), i1 < 5 → f_X10_lengthenWays_15 N P k2 n z i1 x2 x3 x5 = some res → ∀ (H : Heap) (locs : List Loc) (ls : Array Slot), va_P (dC, dI) vwCl ((ql_cw h ad aR adr aG adg aX adx aT kd cI cJ cB cP cQ pad P) z) H → va_D A ((ql_cw h ad aR adr aG adg aX adx aT kd cI cJ cB cP cQ pad P) z) → va_S A s.heap H locs → lv_has ls 7 [(0, .ref h), (1, .ref (pad i1 100)), (2, .int x2), (3, .long x3), (5, .int x5)] → W p l e rm_X10_lengthenWays s m args below meth c H locs 0 0 (ql_Qv below (dC, dI) (ql_cw h ad aR adr aG adg aX adx aT kd cI cJ cB cP cQ pad P) A args s res) (F0 m 15 ls []) := by
  have C0q := C0
  obtain ⟨hx, hb, hr, hml, hown, hts, hlocks, hK, hA⟩ := C0q
  have fl74 := hts (Cond.fieldLink RX10 74 "TestedLoops" "longerWays" "[J") (by decide +kernel)
  have fl70 := hts (Cond.fieldLink RX10 70 "TestedLoops" "ways" "[J") (by decide +kernel)
  intro n
  induction n with
  | zero =>
    intro z i1 x2 x3 x5 gi1 hf
    rw [f_X10_lengthenWays_15] at hf
    cases hf
  | succ n ih =>
    intro z i1 x2 x3 x5 gi1 hf H locs ls hP hD hS hl
    rw [f_X10_lengthenWays_15] at hf
    refine lv_iload hx hb dX10_lengthenWays_15 (lv_at hl 4 rfl) ?_
    refine lv_iconst (v := 4) hx hb dX10_lengthenWays_17 (by decide) ?_
    refine lv_icmp_ge (tgt := 59) hx hb dX10_lengthenWays_18 (by decide) (fun c1 => ?_) (fun c1 => ?_)
    · have hf := (if_pos c1).symm.trans hf
      refine lv_aload_n hx hb dX10_lengthenWays_59 rfl (lv_at hl 0 rfl) ?_
      refine va_get (D := (dC, dI)) (ci := 10) (v := .ref (ad 11)) (C := RX10) (T := TX10) (N := 13) hx hb hts iw_X10_lengthenWays_X10 hown hK.1 hP 0 rfl rfl 10 (by decide) fl74 (fun _ h9 => h9) rfl dX10_lengthenWays_60 ?_
      refine lv_iload_n hx hb dX10_lengthenWays_63 rfl (lv_at hl 2 rfl) ?_
      refine lv_lload_n hx hb dX10_lengthenWays_64 rfl (lv_at hl 3 rfl) ?_
      have g0 := ql_in (ql_gt hf)
      have hf := ql_gx hf
      refine va_last (f := (z.2.1 11)) hx hb hK.1 hP hD hS 6 1 rfl rfl g0 dX10_lengthenWays_65 (fun H locs hP hD hS => ?_)
      refine lv_iinc (v := (x2 + 1)) (lv' := [(2, .int (x2 + 1)), (0, .ref h), (1, .ref (pad i1 100)), (3, .long x3), (5, .int x5)]) hx hb dX10_lengthenWays_66 hl (k := 2) rfl rfl (by decide) rfl (fun ls hl => ?_)
      refine lv_goto (tgt := 2) hx hb dX10_lengthenWays_69 (by decide) ?_
      exact hk2 _ _ _ gi1 hf _ _ _ hP hD hS (lv_sub hl [1, 2, 0] rfl)
    · have hf := (if_neg c1).symm.trans hf
      refine lv_aload_n hx hb dX10_lengthenWays_21 rfl (lv_at hl 1 rfl) ?_
      refine lv_iload_n hx hb dX10_lengthenWays_22 rfl (lv_at hl 2 rfl) ?_
      refine lv_iload hx hb dX10_lengthenWays_23 (lv_at hl 4 rfl) ?_
      obtain ⟨u2, hu2, hf⟩ := ql_bd hf
      refine ql_callRVi (As := [.int x2, .int x5]) (rest := []) C0 (c_X6_goes l dC dI (pad i1 100) (pad i1) cI N (P i1) x2 x5 u2 hu2) (cwV 2 hts gX10_lengthenWays_X6_goes rfl rfl rfl qv_X6_goes ⟨Nat.le_of_ble_eq_true rfl, Nat.le_of_ble_eq_true rfl⟩) (va_recv hK.1 (ql_pl 25 hP rfl gi1) (ci := 6) (q0 := 0) rfl rfl) (hK.sub [0] rfl) (ql_pl 25 hP rfl gi1) hS hl.1 rfl rfl (Nat.le_of_ble_eq_true rfl) dX10_lengthenWays_25 (fun H1 locs hk hS => ?_)
      have hP := ql_keep hP hk
      refine lv_istore (lv' := [(6, .int u2), (0, .ref h), (1, .ref (pad i1 100)), (2, .int x2), (3, .long x3), (5, .int x5)]) hx hb dX10_lengthenWays_28 hl (by decide) rfl (fun ls hl => ?_)
      refine lv_lload_n hx hb dX10_lengthenWays_30 rfl (lv_at hl 4 rfl) ?_
      refine lv_aload_n hx hb dX10_lengthenWays_31 rfl (lv_at hl 2 rfl) ?_
      refine lv_iload hx hb dX10_lengthenWays_32 (lv_at hl 0 rfl) ?_
      obtain ⟨u3, hu3, hf⟩ := ql_bd hf
      refine ql_callRVi (As := [.int u2]) (rest := [.long x3]) C0 (c_X6_isPlace l dC dI (pad i1 100) (pad i1) cI N (P i1) u2 u3 hu3) (cwV 1 hts gX10_lengthenWays_X6_isPlace rfl rfl rfl qv_X6_isPlace ⟨Nat.le_of_ble_eq_true rfl, Nat.le_of_ble_eq_true rfl⟩) (va_recv hK.1 (ql_pl 25 hP rfl gi1) (ci := 6) (q0 := 0) rfl rfl) (hK.sub [0] rfl) (ql_pl 25 hP rfl gi1) hS hl.1 rfl rfl (Nat.le_of_ble_eq_true rfl) dX10_lengthenWays_34 (fun H1 locs hk hS => ?_)
      have hP := ql_keep hP hk
      refine lv_if_eq (tgt := 50) hx hb dX10_lengthenWays_37 (by decide) (fun c4 => ?_) (fun c4 => ?_)
      · have hf := (if_pos c4).symm.trans hf
        refine lv_lconst (v := 0) hx hb dX10_lengthenWays_50 (by decide) ?_
        exact w_X10_lengthenWays_51 C0 N P k2 hk2 (f_X10_lengthenWays_15 N P k2 n) ih _ _ _ _ _ _ gi1 hf _ _ _ hP hD hS (lv_sub hl [1, 2, 3, 5] rfl)
      · have hf := (if_neg c4).symm.trans hf
        refine lv_aload_n hx hb dX10_lengthenWays_40 rfl (lv_at hl 1 rfl) ?_
        refine va_get (D := (dC, dI)) (ci := 10) (v := .ref (ad 10)) (C := RX10) (T := TX10) (N := 13) hx hb hts iw_X10_lengthenWays_X10 hown hK.1 hP 0 rfl rfl 9 (by decide) fl70 (fun _ h9 => h9) rfl dX10_lengthenWays_41 ?_
        refine lv_iload hx hb dX10_lengthenWays_44 (lv_at hl 0 rfl) ?_
        have g0 := ql_in (ql_gt hf)
        have hf := ql_gx hf
        refine va_lald (f := (z.2.1 10)) hx hb hK.1 hP 5 1 rfl rfl g0 dX10_lengthenWays_46 ?_
        refine lv_goto (tgt := 51) hx hb dX10_lengthenWays_47 (by decide) ?_
        exact w_X10_lengthenWays_51 C0 N P k2 hk2 (f_X10_lengthenWays_15 N P k2 n) ih _ _ _ _ _ _ gi1 hf _ _ _ hP hD hS (lv_sub hl [1, 2, 3, 5] rfl)
set_option maxHeartbeats 4000000 in
set_option maxRecDepth 100000 in
theorem w_X10_lengthenWays_2 {p : Program} {l : Launch} {e : Env} {s : State} {m : MethodId} {args : Array Value} {below : List Frame} {meth : Method} {c : Code} {dC : Nat → ClassId} {dI : Nat → Nat → Nat} {A : Nat → Prop} {h : Nat} {ad : Nat → Nat} {aR : Nat} {adr : Nat → Nat} {aG : Nat} {adg : Nat → Nat} {aX : Nat} {adx : Nat → Nat} {aT : Nat} {kd : Nat → Nat} {cI cJ cB cP cQ : ClassId} {pad : Nat → Nat → Nat} {res : ql_V} (C0 : ql_C p s m args meth c cX10_lengthenWays 7 none wsX10_lengthenWays RX10 (dC, dI) [(cI, .int), (cJ, .long), (cB, .byte), (cP, .object RX6), (cQ, .object RX5)] A) (N : Nat) (P : Nat → ql_St) : ∀ (n : Nat), ∀ (z : ql_V) (i1 : Nat) (x2 : Int32), i1 < 5 → f_X10_lengthenWays_2 N P n z i1 x2 = some res → ∀ (H : Heap) (locs : List Loc) (ls : Array Slot), va_P (dC, dI) vwCl ((ql_cw h ad aR adr aG adg aX adx aT kd cI cJ cB cP cQ pad P) z) H → va_D A ((ql_cw h ad aR adr aG adg aX adx aT kd cI cJ cB cP cQ pad P) z) → va_S A s.heap H locs → lv_has ls 7 [(0, .ref h), (1, .ref (pad i1 100)), (2, .int x2)] → W p l e rm_X10_lengthenWays s m args below meth c H locs 0 0 (ql_Qv below (dC, dI) (ql_cw h ad aR adr aG adg aX adx aT kd cI cJ cB cP cQ pad P) A args s res) (F0 m 2 ls []) := by
  have C0q := C0
  obtain ⟨hx, hb, hr, hml, hown, hts, hlocks, hK, hA⟩ := C0q
  have fl94 := hts (Cond.fieldLink RX10 94 "TestedLoops$Plan" "places" "I") (by decide +kernel)
  have fl74 := hts (Cond.fieldLink RX10 74 "TestedLoops" "longerWays" "[J") (by decide +kernel)
  have fl70 := hts (Cond.fieldLink RX10 70 "TestedLoops" "ways" "[J") (by decide +kernel)
  intro n
  induction n with
  | zero =>
    intro z i1 x2 gi1 hf
    rw [f_X10_lengthenWays_2] at hf
    cases hf
  | succ n ih =>
    intro z i1 x2 gi1 hf H locs ls hP hD hS hl
    rw [f_X10_lengthenWays_2] at hf
    refine lv_iload_n hx hb dX10_lengthenWays_2 rfl (lv_at hl 2 rfl) ?_
    refine lv_aload_n hx hb dX10_lengthenWays_3 rfl (lv_at hl 1 rfl) ?_
    refine va_get (D := (dC, dI)) (ci := 6) (v := .int (P i1 6 0)) (C := RX6) (T := TX6) (N := 10) hx hb hts iw_X10_lengthenWays_X6 hown hK.1 (ql_pl 25 hP rfl gi1) 0 rfl rfl 6 (by decide) fl94 (fun _ h9 => h9) rfl dX10_lengthenWays_4 ?_
    refine lv_icmp_gt (tgt := 72) hx hb dX10_lengthenWays_7 (by decide) (fun c5 => ?_) (fun c5 => ?_)
    · have hf := (if_pos c5).symm.trans hf
      refine lv_aload_n hx hb dX10_lengthenWays_72 rfl (lv_at hl 0 rfl) ?_
      refine va_get (D := (dC, dI)) (ci := 10) (v := .ref (ad 11)) (C := RX10) (T := TX10) (N := 13) hx hb hts iw_X10_lengthenWays_X10 hown hK.1 hP 0 rfl rfl 10 (by decide) fl74 (fun _ h9 => h9) rfl dX10_lengthenWays_73 ?_
      refine lv_iconst (v := 0) hx hb dX10_lengthenWays_76 (by decide) ?_
      refine lv_aload_n hx hb dX10_lengthenWays_77 rfl (lv_at hl 0 rfl) ?_
      refine va_get (D := (dC, dI)) (ci := 10) (v := .ref (ad 10)) (C := RX10) (T := TX10) (N := 13) hx hb hts iw_X10_lengthenWays_X10 hown hK.1 hP 0 rfl rfl 9 (by decide) fl70 (fun _ h9 => h9) rfl dX10_lengthenWays_78 ?_
      refine lv_iconst (v := 0) hx hb dX10_lengthenWays_81 (by decide) ?_
      refine lv_aload_n hx hb dX10_lengthenWays_82 rfl (lv_at hl 1 rfl) ?_
      refine va_get (D := (dC, dI)) (ci := 6) (v := .int (P i1 6 0)) (C := RX6) (T := TX6) (N := 10) hx hb hts iw_X10_lengthenWays_X6 hown hK.1 (ql_pl 25 hP rfl gi1) 0 rfl rfl 6 (by decide) fl94 (fun _ h9 => h9) rfl dX10_lengthenWays_83 ?_
      refine lv_iconst (v := 1) hx hb dX10_lengthenWays_86 (by decide) ?_
      refine lv_iadd hx hb dX10_lengthenWays_87 ?_
      have g0 := ql_ig0 (ql_gt hf)
      have hf := ql_gx hf
      refine va_copyl (f := (z.2.1 11)) (g := (z.2.1 10)) hx hb (hml.trans hl.1.symm) hown (hts (.methodLink RX10 179 arraycopyName) (by decide +kernel)) (hts (.native arraycopyName) (by decide +kernel)) (hts (.static arraycopyName) (by decide +kernel)) (hts (.initialized "java/lang/System") (by decide +kernel)) hK.1 hP hD hS 6 5 1 1 rfl rfl rfl rfl rfl (by decide) (by decide) g0.1 (ql_ig1 g0.2 (by decide) (by decide)) (ql_ig1 g0.2 (by decide) (by decide)) (fun _ _ => rfl) (Nat.le_of_ble_eq_true rfl) (by decide) dX10_lengthenWays_88 (fun H locs hP hD hS => ?_)
      exact ql_vret C0 hf hP hD hS dX10_lengthenWays_91
    · have hf := (if_neg c5).symm.trans hf
      refine lv_lconst (v := 0) hx hb dX10_lengthenWays_10 (by decide) ?_
      refine lv_lstore_n (lv' := [(3, .long 0), (0, .ref h), (1, .ref (pad i1 100)), (2, .int x2)]) hx hb dX10_lengthenWays_11 rfl hl (by decide) rfl (fun ls hl => ?_)
      refine lv_iconst (v := 0) hx hb dX10_lengthenWays_12 (by decide) ?_
      refine lv_istore (lv' := [(5, .int 0), (3, .long 0), (0, .ref h), (1, .ref (pad i1 100)), (2, .int x2)]) hx hb dX10_lengthenWays_13 hl (by decide) rfl (fun ls hl => ?_)
      exact w_X10_lengthenWays_15 C0 N P (f_X10_lengthenWays_2 N P n) ih N _ _ _ _ _ gi1 hf _ _ _ hP hD hS (lv_sub hl [2, 3, 4, 1, 0] rfl)
set_option maxHeartbeats 4000000 in
set_option maxRecDepth 100000 in
theorem w_X10_lengthenWays_0 {p : Program} {l : Launch} {e : Env} {s : State} {m : MethodId} {args : Array Value} {below : List Frame} {meth : Method} {c : Code} {dC : Nat → ClassId} {dI : Nat → Nat → Nat} {A : Nat → Prop} {h : Nat} {ad : Nat → Nat} {aR : Nat} {adr : Nat → Nat} {aG : Nat} {adg : Nat → Nat} {aX : Nat} {adx : Nat → Nat} {aT : Nat} {kd : Nat → Nat} {cI cJ cB cP cQ : ClassId} {pad : Nat → Nat → Nat} {res : ql_V} (C0 : ql_C p s m args meth c cX10_lengthenWays 7 none wsX10_lengthenWays RX10 (dC, dI) [(cI, .int), (cJ, .long), (cB, .byte), (cP, .object RX6), (cQ, .object RX5)] A) (N : Nat) (P : Nat → ql_St) : ∀ (z : ql_V) (i1 : Nat), i1 < 5 → f_X10_lengthenWays_0 N P z i1 = some res → ∀ (H : Heap) (locs : List Loc) (ls : Array Slot), va_P (dC, dI) vwCl ((ql_cw h ad aR adr aG adg aX adx aT kd cI cJ cB cP cQ pad P) z) H → va_D A ((ql_cw h ad aR adr aG adg aX adx aT kd cI cJ cB cP cQ pad P) z) → va_S A s.heap H locs → lv_has ls 7 [(0, .ref h), (1, .ref (pad i1 100))] → W p l e rm_X10_lengthenWays s m args below meth c H locs 0 0 (ql_Qv below (dC, dI) (ql_cw h ad aR adr aG adg aX adx aT kd cI cJ cB cP cQ pad P) A args s res) (F0 m 0 ls []) := by
  have C0q := C0
  obtain ⟨hx, hb, hr, hml, hown, hts, hlocks, hK, hA⟩ := C0q
  intro z i1 gi1 hf H locs ls hP hD hS hl
  unfold f_X10_lengthenWays_0 at hf
  refine lv_iconst (v := 0) hx hb dX10_lengthenWays_0 (by decide) ?_
  refine lv_istore_n (lv' := [(2, .int 0), (0, .ref h), (1, .ref (pad i1 100))]) hx hb dX10_lengthenWays_1 rfl hl (by decide) rfl (fun ls hl => ?_)
  exact w_X10_lengthenWays_2 C0 N P N _ _ _ gi1 hf _ _ _ hP hD hS (lv_sub hl [1, 2, 0] rfl)
set_option maxRecDepth 100000 in
theorem c_X10_lengthenWays (l : Launch) (dC : Nat → ClassId) (dI : Nat → Nat → Nat) (h : Nat) (ad : Nat → Nat) (aR : Nat) (adr : Nat → Nat) (aG : Nat) (adg : Nat → Nat) (aX : Nat) (adx : Nat → Nat) (aT : Nat) (kd : Nat → Nat) (cI cJ cB cP cQ : ClassId) (pad : Nat → Nat → Nat) (N : Nat) (P : Nat → ql_St) (z : ql_V) (i1 : Nat) (gi1 : i1 < 5) (res : ql_V) (hf : f_X10_lengthenWays N P z i1 = some res) : ql_Mv l yX10_lengthenWays wsX10_lengthenWays rm_X10_lengthenWays (dC, dI) [(cI, .int), (cJ, .long), (cB, .byte), (cP, .object RX6), (cQ, .object RX5)] (ql_cw h ad aR adr aG adg aX adx aT kd cI cJ cB cP cQ pad P) [.ref h, .ref (pad i1 100)] z res :=
  ql_start_v (by decide) rfl (Nat.le_of_ble_eq_true rfl) (fun p e s m below meth c A ls C0 hl hP hD hS => w_X10_lengthenWays_0 C0 N P z i1 gi1 hf s.heap [] ls hP hD hS (lv_sub (show lv_has ls 7 [(0, .ref h), (1, .ref (pad i1 100))] from hl) [0, 1] rfl))
/-! ===== TestedLoops.many(II)J ===== -/
abbrev rm_X10_many : Room := { frames := 3, cells := 0, slots := 0, locals := 70 }
theorem iw_X10_many_X10 : ∀ w ∈ wsX100, w ∈ wsX10_many := fun w h => List.mem_cons_of_mem _ (List.mem_append_left _ (List.mem_append_right _ h))
theorem iw_X10_many_X6 : ∀ w ∈ wsX60, w ∈ wsX10_many := fun w h => List.mem_cons_of_mem _ (List.mem_append_right _ h)
theorem qv_X10_many : yX10_many.cls = RX10 ∧ yX10_many.cls ≠ "java/lang/invoke/MethodHandle" ∧ yX10_many.cls ≠ "java/lang/invoke/VarHandle" ∧ (parseMethodDescriptor yX10_many.desc).map (fun d => d.parameters.length) = some 2 := by decide +kernel
def f_X10_many_17 (N : Nat) (P : Nat → ql_St) (z : ql_V) : Option (Int64 × ql_V) := some ((-1), z)
def f_X10_many_63 (N : Nat) (P : Nat → ql_St) : Nat → ql_V → Int32 → Nat → Int32 → Option (Int64 × ql_V)
  | 0, _, _, _, _ => none
  | n + 1, z, x2, i3, x4 => if x2 < x4 then some (((z.2.1 10) 0), z) else (f_X10_lengthenWays N P z i3).bind fun u2 => f_X10_many_63 N P n u2 x2 i3 (x4 + 1)
def f_X10_many_31 (N : Nat) (P : Nat → ql_St) : Nat → ql_V → Int32 → Nat → Int32 → Option (Int64 × ql_V)
  | 0, _, _, _, _ => none
  | n + 1, z, x2, i3, x4 => if (P i3 6 0) < x4 then f_X10_many_63 N P N z x2 i3 1 else (f_X6_endings N (P i3) x4).bind fun u4 => if ql_ib x4 17 = true then f_X10_many_31 N P n (z.1, (ql_uq z.2.1 10 (vp_updL (z.2.1 10) x4.toNatClampNeg u4.toInt64)), z.2.2.1, z.2.2.2.1, z.2.2.2.2.1, z.2.2.2.2.2) x2 i3 (x4 + 1) else none
def f_X10_many_0 (N : Nat) (P : Nat → ql_St) (z : ql_V) (x1 : Int32) (x2 : Int32) : Option (Int64 × ql_V) := (f_X10_isProgram N x1).bind fun u5 => if u5 = 0 then f_X10_many_17 N P z else if x2 < 0 then f_X10_many_17 N P z else if x2 ≤ 14 then if ql_ib x1 4 = true then f_X10_many_31 N P N z x2 x1.toNatClampNeg 0 else none else f_X10_many_17 N P z
def f_X10_many (N : Nat) (P : Nat → ql_St) (z : ql_V) (x1 : Int32) (x2 : Int32) : Option (Int64 × ql_V) := f_X10_many_0 N P z x1 x2
set_option maxHeartbeats 4000000 in
set_option maxRecDepth 100000 in
theorem w_X10_many_17 {p : Program} {l : Launch} {e : Env} {s : State} {m : MethodId} {args : Array Value} {below : List Frame} {meth : Method} {c : Code} {dC : Nat → ClassId} {dI : Nat → Nat → Nat} {A : Nat → Prop} {h : Nat} {ad : Nat → Nat} {aR : Nat} {adr : Nat → Nat} {aG : Nat} {adg : Nat → Nat} {aX : Nat} {adx : Nat → Nat} {aT : Nat} {kd : Nat → Nat} {cI cJ cB cP cQ : ClassId} {pad : Nat → Nat → Nat} {res : Int64 × ql_V} (C0 : ql_C p s m args meth c cX10_many 5 (some .long) wsX10_many RX10 (dC, dI) [(cI, .int), (cJ, .long), (cB, .byte), (cP, .object RX6), (cQ, .object RX5)] A) (N : Nat) (P : Nat → ql_St) : ∀ (z : ql_V), f_X10_many_17 N P z = some res → ∀ (H : Heap) (locs : List Loc) (ls : Array Slot), va_P (dC, dI) vwCl ((ql_cw h ad aR adr aG adg aX adx aT kd cI cJ cB cP cQ pad P) z) H → va_D A ((ql_cw h ad aR adr aG adg aX adx aT kd cI cJ cB cP cQ pad P) z) → va_S A s.heap H locs → lv_has ls 5 [(0, .ref h)] → W p l e rm_X10_many s m args below meth c H locs 0 0 (ql_Ql below (dC, dI) (ql_cw h ad aR adr aG adg aX adx aT kd cI cJ cB cP cQ pad P) A args s res) (F0 m 17 ls []) := by
  have C0q := C0
  obtain ⟨hx, hb, hr, hml, hown, hts, hlocks, hK, hA⟩ := C0q
  have fl115 := hts (Cond.constantLong RX10 115 (-1)) (by decide +kernel)
  intro z hf H locs ls hP hD hS hl
  unfold f_X10_many_17 at hf
  refine lv_ldc2 hx hb hown fl115 dX10_many_17 ?_
  exact ql_lret C0 hf hP hD hS dX10_many_20
set_option maxHeartbeats 4000000 in
set_option maxRecDepth 100000 in
theorem w_X10_many_63 {p : Program} {l : Launch} {e : Env} {s : State} {m : MethodId} {args : Array Value} {below : List Frame} {meth : Method} {c : Code} {dC : Nat → ClassId} {dI : Nat → Nat → Nat} {A : Nat → Prop} {h : Nat} {ad : Nat → Nat} {aR : Nat} {adr : Nat → Nat} {aG : Nat} {adg : Nat → Nat} {aX : Nat} {adx : Nat → Nat} {aT : Nat} {kd : Nat → Nat} {cI cJ cB cP cQ : ClassId} {pad : Nat → Nat → Nat} {res : Int64 × ql_V} (C0 : ql_C p s m args meth c cX10_many 5 (some .long) wsX10_many RX10 (dC, dI) [(cI, .int), (cJ, .long), (cB, .byte), (cP, .object RX6), (cQ, .object RX5)] A) (N : Nat) (P : Nat → ql_St) : ∀ (n : Nat), ∀ (z : ql_V) (x2 : Int32) (i3 : Nat) (x4 : Int32), i3 < 5 → f_X10_many_63 N P n z x2 i3 x4 = some res → ∀ (H : Heap) (locs : List Loc) (ls : Array Slot), va_P (dC, dI) vwCl ((ql_cw h ad aR adr aG adg aX adx aT kd cI cJ cB cP cQ pad P) z) H → va_D A ((ql_cw h ad aR adr aG adg aX adx aT kd cI cJ cB cP cQ pad P) z) → va_S A s.heap H locs → lv_has ls 5 [(0, .ref h), (2, .int x2), (3, .ref (pad i3 100)), (4, .int x4)] → W p l e rm_X10_many s m args below meth c H locs 0 0 (ql_Ql below (dC, dI) (ql_cw h ad aR adr aG adg aX adx aT kd cI cJ cB cP cQ pad P) A args s res) (F0 m 63 ls []) := by
  have C0q := C0
  obtain ⟨hx, hb, hr, hml, hown, hts, hlocks, hK, hA⟩ := C0q
  have fl70 := hts (Cond.fieldLink RX10 70 "TestedLoops" "ways" "[J") (by decide +kernel)
  intro n
  induction n with
  | zero =>
    intro z x2 i3 x4 gi3 hf
    rw [f_X10_many_63] at hf
    cases hf
  | succ n ih =>
    intro z x2 i3 x4 gi3 hf H locs ls hP hD hS hl
    rw [f_X10_many_63] at hf
    refine lv_iload hx hb dX10_many_63 (lv_at hl 3 rfl) ?_
    refine lv_iload_n hx hb dX10_many_65 rfl (lv_at hl 1 rfl) ?_
    refine lv_icmp_gt (tgt := 80) hx hb dX10_many_66 (by decide) (fun c1 => ?_) (fun c1 => ?_)
    · have hf := (if_pos c1).symm.trans hf
      refine lv_aload_n hx hb dX10_many_80 rfl (lv_at hl 0 rfl) ?_
      refine va_get (D := (dC, dI)) (ci := 10) (v := .ref (ad 10)) (C := RX10) (T := TX10) (N := 13) hx hb hts iw_X10_many_X10 hown hK.1 hP 0 rfl rfl 9 (by decide) fl70 (fun _ h9 => h9) rfl dX10_many_81 ?_
      refine lv_iconst (v := 0) hx hb dX10_many_84 (by decide) ?_
      refine va_lald (f := (z.2.1 10)) hx hb hK.1 hP 5 1 rfl rfl (ql_in (i := 0) (n := 17) (by decide)) dX10_many_85 ?_
      refine ql_tvl (y := (z.2.1 10) 0) (congrArg (z.2.1 10) (by decide)) ?_
      exact ql_lret C0 hf hP hD hS dX10_many_86
    · have hf := (if_neg c1).symm.trans hf
      refine lv_aload_n hx hb dX10_many_69 rfl (lv_at hl 0 rfl) ?_
      refine lv_aload_n hx hb dX10_many_70 rfl (lv_at hl 2 rfl) ?_
      obtain ⟨u2, hu2, hf⟩ := ql_bd hf
      refine ql_callVv (As := [.ref (pad i3 100)]) (rest := []) C0 (c_X10_lengthenWays l dC dI h ad aR adr aG adg aX adx aT kd cI cJ cB cP cQ pad N P z i3 gi3 u2 hu2) (cwV 1 hts gX10_many_X10_lengthenWays rfl rfl rfl qv_X10_lengthenWays ⟨Nat.le_of_ble_eq_true rfl, Nat.le_of_ble_eq_true rfl⟩) (va_recv hK.1 hP (ci := 10) (q0 := 0) rfl rfl) hP hD hS hl.1 rfl rfl (Nat.le_of_ble_eq_true rfl) dX10_many_71 (fun H locs hP hD hS => ?_)
      refine lv_iinc (v := (x4 + 1)) (lv' := [(4, .int (x4 + 1)), (0, .ref h), (2, .int x2), (3, .ref (pad i3 100))]) hx hb dX10_many_74 hl (k := 3) rfl rfl (by decide) rfl (fun ls hl => ?_)
      refine lv_goto (tgt := 63) hx hb dX10_many_77 (by decide) ?_
      exact ih _ _ _ _ gi3 hf _ _ _ hP hD hS (lv_sub hl [1, 2, 3, 0] rfl)
set_option maxHeartbeats 4000000 in
set_option maxRecDepth 100000 in
theorem w_X10_many_31 {p : Program} {l : Launch} {e : Env} {s : State} {m : MethodId} {args : Array Value} {below : List Frame} {meth : Method} {c : Code} {dC : Nat → ClassId} {dI : Nat → Nat → Nat} {A : Nat → Prop} {h : Nat} {ad : Nat → Nat} {aR : Nat} {adr : Nat → Nat} {aG : Nat} {adg : Nat → Nat} {aX : Nat} {adx : Nat → Nat} {aT : Nat} {kd : Nat → Nat} {cI cJ cB cP cQ : ClassId} {pad : Nat → Nat → Nat} {res : Int64 × ql_V} (C0 : ql_C p s m args meth c cX10_many 5 (some .long) wsX10_many RX10 (dC, dI) [(cI, .int), (cJ, .long), (cB, .byte), (cP, .object RX6), (cQ, .object RX5)] A) (N : Nat) (P : Nat → ql_St) : ∀ (n : Nat), ∀ (z : ql_V) (x2 : Int32) (i3 : Nat) (x4 : Int32), i3 < 5 → f_X10_many_31 N P n z x2 i3 x4 = some res → ∀ (H : Heap) (locs : List Loc) (ls : Array Slot), va_P (dC, dI) vwCl ((ql_cw h ad aR adr aG adg aX adx aT kd cI cJ cB cP cQ pad P) z) H → va_D A ((ql_cw h ad aR adr aG adg aX adx aT kd cI cJ cB cP cQ pad P) z) → va_S A s.heap H locs → lv_has ls 5 [(0, .ref h), (2, .int x2), (3, .ref (pad i3 100)), (4, .int x4)] → W p l e rm_X10_many s m args below meth c H locs 0 0 (ql_Ql below (dC, dI) (ql_cw h ad aR adr aG adg aX adx aT kd cI cJ cB cP cQ pad P) A args s res) (F0 m 31 ls []) := by
  have C0q := C0
  obtain ⟨hx, hb, hr, hml, hown, hts, hlocks, hK, hA⟩ := C0q
  have fl94 := hts (Cond.fieldLink RX10 94 "TestedLoops$Plan" "places" "I") (by decide +kernel)
  have fl70 := hts (Cond.fieldLink RX10 70 "TestedLoops" "ways" "[J") (by decide +kernel)
  intro n
  induction n with
  | zero =>
    intro z x2 i3 x4 gi3 hf
    rw [f_X10_many_31] at hf
    cases hf
  | succ n ih =>
    intro z x2 i3 x4 gi3 hf H locs ls hP hD hS hl
    rw [f_X10_many_31] at hf
    refine lv_iload hx hb dX10_many_31 (lv_at hl 3 rfl) ?_
    refine lv_aload_n hx hb dX10_many_33 rfl (lv_at hl 2 rfl) ?_
    refine va_get (D := (dC, dI)) (ci := 6) (v := .int (P i3 6 0)) (C := RX6) (T := TX6) (N := 10) hx hb hts iw_X10_many_X6 hown hK.1 (ql_pl 25 hP rfl gi3) 0 rfl rfl 6 (by decide) fl94 (fun _ h9 => h9) rfl dX10_many_34 ?_
    refine lv_icmp_gt (tgt := 60) hx hb dX10_many_37 (by decide) (fun c3 => ?_) (fun c3 => ?_)
    · have hf := (if_pos c3).symm.trans hf
      refine lv_iconst (v := 1) hx hb dX10_many_60 (by decide) ?_
      refine lv_istore (lv' := [(4, .int 1), (0, .ref h), (2, .int x2), (3, .ref (pad i3 100))]) hx hb dX10_many_61 hl (by decide) rfl (fun ls hl => ?_)
      exact w_X10_many_63 C0 N P N _ _ _ _ gi3 hf _ _ _ hP hD hS (lv_sub hl [1, 2, 3, 0] rfl)
    · have hf := (if_neg c3).symm.trans hf
      refine lv_aload_n hx hb dX10_many_40 rfl (lv_at hl 0 rfl) ?_
      refine va_get (D := (dC, dI)) (ci := 10) (v := .ref (ad 10)) (C := RX10) (T := TX10) (N := 13) hx hb hts iw_X10_many_X10 hown hK.1 hP 0 rfl rfl 9 (by decide) fl70 (fun _ h9 => h9) rfl dX10_many_41 ?_
      refine lv_iload hx hb dX10_many_44 (lv_at hl 3 rfl) ?_
      refine lv_aload_n hx hb dX10_many_46 rfl (lv_at hl 2 rfl) ?_
      refine lv_iload hx hb dX10_many_47 (lv_at hl 3 rfl) ?_
      obtain ⟨u4, hu4, hf⟩ := ql_bd hf
      refine ql_callRVi (As := [.int x4]) (rest := [.int x4, .ref (ad 10)]) C0 (c_X6_endings l dC dI (pad i3 100) (pad i3) cI N (P i3) x4 u4 hu4) (cwV 1 hts gX10_many_X6_endings rfl rfl rfl qv_X6_endings ⟨Nat.le_of_ble_eq_true rfl, Nat.le_of_ble_eq_true rfl⟩) (va_recv hK.1 (ql_pl 25 hP rfl gi3) (ci := 6) (q0 := 0) rfl rfl) (hK.sub [0] rfl) (ql_pl 25 hP rfl gi3) hS hl.1 rfl rfl (Nat.le_of_ble_eq_true rfl) dX10_many_49 (fun H1 locs hk hS => ?_)
      have hP := ql_keep hP hk
      refine lv_i2l hx hb dX10_many_52 rfl ?_
      have g0 := ql_in (ql_gt hf)
      have hf := ql_gx hf
      refine va_last (f := (z.2.1 10)) hx hb hK.1 hP hD hS 5 1 rfl rfl g0 dX10_many_53 (fun H locs hP hD hS => ?_)
      refine lv_iinc (v := (x4 + 1)) (lv' := [(4, .int (x4 + 1)), (0, .ref h), (2, .int x2), (3, .ref (pad i3 100))]) hx hb dX10_many_54 hl (k := 3) rfl rfl (by decide) rfl (fun ls hl => ?_)
      refine lv_goto (tgt := 31) hx hb dX10_many_57 (by decide) ?_
      exact ih _ _ _ _ gi3 hf _ _ _ hP hD hS (lv_sub hl [1, 2, 3, 0] rfl)
set_option maxHeartbeats 4000000 in
set_option maxRecDepth 100000 in
theorem w_X10_many_0 {p : Program} {l : Launch} {e : Env} {s : State} {m : MethodId} {args : Array Value} {below : List Frame} {meth : Method} {c : Code} {dC : Nat → ClassId} {dI : Nat → Nat → Nat} {A : Nat → Prop} {h : Nat} {ad : Nat → Nat} {aR : Nat} {adr : Nat → Nat} {aG : Nat} {adg : Nat → Nat} {aX : Nat} {adx : Nat → Nat} {aT : Nat} {kd : Nat → Nat} {cI cJ cB cP cQ : ClassId} {pad : Nat → Nat → Nat} {res : Int64 × ql_V} (C0 : ql_C p s m args meth c cX10_many 5 (some .long) wsX10_many RX10 (dC, dI) [(cI, .int), (cJ, .long), (cB, .byte), (cP, .object RX6), (cQ, .object RX5)] A) (N : Nat) (P : Nat → ql_St) : ∀ (z : ql_V) (x1 : Int32) (x2 : Int32), f_X10_many_0 N P z x1 x2 = some res → ∀ (H : Heap) (locs : List Loc) (ls : Array Slot), va_P (dC, dI) vwCl ((ql_cw h ad aR adr aG adg aX adx aT kd cI cJ cB cP cQ pad P) z) H → va_D A ((ql_cw h ad aR adr aG adg aX adx aT kd cI cJ cB cP cQ pad P) z) → va_S A s.heap H locs → lv_has ls 5 [(0, .ref h), (1, .int x1), (2, .int x2)] → W p l e rm_X10_many s m args below meth c H locs 0 0 (ql_Ql below (dC, dI) (ql_cw h ad aR adr aG adg aX adx aT kd cI cJ cB cP cQ pad P) A args s res) (F0 m 0 ls []) := by
  have C0q := C0
  obtain ⟨hx, hb, hr, hml, hown, hts, hlocks, hK, hA⟩ := C0q
  have fl15 := hts (Cond.fieldLink RX10 15 "TestedLoops" "plans" "[LTestedLoops$Plan;") (by decide +kernel)
  intro z x1 x2 hf H locs ls hP hD hS hl
  unfold f_X10_many_0 at hf
  refine lv_iload_n hx hb dX10_many_0 rfl (lv_at hl 1 rfl) ?_
  obtain ⟨u5, hu5, hf⟩ := ql_bd hf
  refine ql_callRSi (As := [.int x1]) (rest := []) C0 (c_X10_isProgram l dC dI N x1 u5 hu5) (va_cwS 1 hts gX10_many_X10_isProgram rfl rfl rfl qd_X10_isProgram ⟨Nat.le_of_ble_eq_true rfl, Nat.le_of_ble_eq_true rfl⟩) (hK.sub [] rfl) ql_nil hS hl.1 rfl rfl (Nat.le_of_ble_eq_true rfl) dX10_many_1 (fun H1 locs hk hS => ?_)
  have hP := ql_keep hP hk
  refine lv_if_eq (tgt := 17) hx hb dX10_many_4 (by decide) (fun c6 => ?_) (fun c6 => ?_)
  · have hf := (if_pos c6).symm.trans hf
    exact w_X10_many_17 C0 N P _ hf _ _ _ hP hD hS (lv_sub hl [0] rfl)
  · have hf := (if_neg c6).symm.trans hf
    refine lv_iload_n hx hb dX10_many_7 rfl (lv_at hl 2 rfl) ?_
    refine lv_if_lt (tgt := 17) hx hb dX10_many_8 (by decide) (fun c7 => ?_) (fun c7 => ?_)
    · have hf := (if_pos c7).symm.trans hf
      exact w_X10_many_17 C0 N P _ hf _ _ _ hP hD hS (lv_sub hl [0] rfl)
    · have hf := (if_neg c7).symm.trans hf
      refine lv_iload_n hx hb dX10_many_11 rfl (lv_at hl 2 rfl) ?_
      refine lv_bipush (v := 14) hx hb dX10_many_12 (by decide) ?_
      refine lv_icmp_le (tgt := 21) hx hb dX10_many_14 (by decide) (fun c8 => ?_) (fun c8 => ?_)
      · have hf := (if_pos c8).symm.trans hf
        refine lv_aload_n hx hb dX10_many_21 rfl (lv_at hl 0 rfl) ?_
        refine va_get (D := (dC, dI)) (ci := 10) (v := .ref (ad 2)) (C := RX10) (T := TX10) (N := 13) hx hb hts iw_X10_many_X10 hown hK.1 hP 0 rfl rfl 2 (by decide) fl15 (fun _ h9 => h9) rfl dX10_many_22 ?_
        refine lv_iload_n hx hb dX10_many_25 rfl (lv_at hl 1 rfl) ?_
        have g0 := ql_in (ql_gt hf)
        have hf := ql_gx hf
        have gp9 := ql_lt g0
        refine va_aldq (f := ql_pf pad) hx hb hK.1 hP 2 3 rfl rfl g0 dX10_many_26 ?_
        refine W.eq (g2 := F0 m 27 ls [.ref (pad x1.toNatClampNeg 100)]) (by rw [ql_pfv gp9]) ?_
        refine lv_astore_n (lv' := [(3, .ref (pad x1.toNatClampNeg 100)), (0, .ref h), (1, .int x1), (2, .int x2)]) hx hb dX10_many_27 rfl hl (by decide) rfl (fun ls hl => ?_)
        refine lv_iconst (v := 0) hx hb dX10_many_28 (by decide) ?_
        refine lv_istore (lv' := [(4, .int 0), (3, .ref (pad x1.toNatClampNeg 100)), (0, .ref h), (1, .int x1), (2, .int x2)]) hx hb dX10_many_29 hl (by decide) rfl (fun ls hl => ?_)
        exact w_X10_many_31 C0 N P N _ _ _ _ (Nat.lt_of_lt_of_le gp9 (by decide)) hf _ _ _ hP hD hS (lv_sub hl [2, 4, 1, 0] rfl)
      · have hf := (if_neg c8).symm.trans hf
        exact w_X10_many_17 C0 N P _ hf _ _ _ hP hD hS (lv_sub hl [0] rfl)
set_option maxRecDepth 100000 in
theorem c_X10_many (l : Launch) (dC : Nat → ClassId) (dI : Nat → Nat → Nat) (h : Nat) (ad : Nat → Nat) (aR : Nat) (adr : Nat → Nat) (aG : Nat) (adg : Nat → Nat) (aX : Nat) (adx : Nat → Nat) (aT : Nat) (kd : Nat → Nat) (cI cJ cB cP cQ : ClassId) (pad : Nat → Nat → Nat) (N : Nat) (P : Nat → ql_St) (z : ql_V) (x1 : Int32) (x2 : Int32) (res : Int64 × ql_V) (hf : f_X10_many N P z x1 x2 = some res) : ql_Ml l yX10_many wsX10_many rm_X10_many (dC, dI) [(cI, .int), (cJ, .long), (cB, .byte), (cP, .object RX6), (cQ, .object RX5)] (ql_cw h ad aR adr aG adg aX adx aT kd cI cJ cB cP cQ pad P) [.ref h, .int x1, .int x2] z res :=
  ql_start_l (by decide) rfl (Nat.le_of_ble_eq_true rfl) (fun p e s m below meth c A ls C0 hl hP hD hS => w_X10_many_0 C0 N P z x1 x2 hf s.heap [] ls hP hD hS (lv_sub (show lv_has ls 5 [(0, .ref h), (1, .int x1), (2, .int x2)] from hl) [0, 1, 2] rfl))
