/-! ===== TestedLoops.size(I)I ===== -/
abbrev rm_X10_size : Room := { frames := 3, cells := 0, slots := 0, locals := 66 }
theorem iw_X10_size_X10 : ∀ w ∈ wsX100, w ∈ wsX10_size := fun w h => List.mem_cons_of_mem _ (List.mem_append_left _ (List.mem_append_left _ (List.mem_append_right _ h)))
theorem iw_X10_size_X6 : ∀ w ∈ wsX60, w ∈ wsX10_size := fun w h => List.mem_cons_of_mem _ (List.mem_append_left _ (List.mem_append_right _ h))
theorem iw_X10_size_X8 : ∀ w ∈ wsX80, w ∈ wsX10_size := fun w h => List.mem_cons_of_mem _ (List.mem_append_right _ h)
theorem qv_X10_size : yX10_size.cls = RX10 ∧ yX10_size.cls ≠ "java/lang/invoke/MethodHandle" ∧ yX10_size.cls ≠ "java/lang/invoke/VarHandle" ∧ (parseMethodDescriptor yX10_size.desc).map (fun d => d.parameters.length) = some 1 := by decide +kernel
def f_X10_size_77 (N : Nat) (P : Nat → ql_St) (k21 : ql_V → Nat → Int32 → Int32 → Option (Int32 × ql_V)) (z : ql_V) (i2 : Nat) (x3 : Int32) (x4 : Int32) : Option (Int32 × ql_V) := k21 z i2 x3 (x4 + 1)
def f_X10_size_21 (N : Nat) (P : Nat → ql_St) : Nat → ql_V → Nat → Int32 → Int32 → Option (Int32 × ql_V)
  | 0, _, _, _, _ => none
  | n + 1, z, i2, x3, x4 => if (P i2 3 0) ≤ x4 then some (x3, z) else if ql_ib x4 300 = true then if ((P i2 0) x4.toNatClampNeg) < 0 then f_X10_size_77 N P (f_X10_size_21 N P n) z i2 x3 x4 else if 5 ≤ ((P i2 0) x4.toNatClampNeg) then f_X10_size_77 N P (f_X10_size_21 N P n) z i2 x3 x4 else if ((P i2 0) x4.toNatClampNeg) = 0 then (f_X6_numberOf N (P i2) x4).bind fun u5 => (f_X5_weigh N (fun _ _ => (z.2.1 100 0)) u5).bind fun u6 => f_X10_size_77 N P (f_X10_size_21 N P n) (z.1, (ql_uq z.2.1 100 (fun _ => (u6.2 0 0))), z.2.2.1, z.2.2.2.1, z.2.2.2.2.1, z.2.2.2.2.2) i2 (x3 + u6.1) x4 else if ((P i2 0) x4.toNatClampNeg) = 1 then (f_X6_numberOf N (P i2) x4).bind fun u8 => (f_X0_weigh N (fun _ _ => (z.2.1 100 0)) u8).bind fun u9 => f_X10_size_77 N P (f_X10_size_21 N P n) (z.1, (ql_uq z.2.1 100 (fun _ => (u9.2 0 0))), z.2.2.1, z.2.2.2.1, z.2.2.2.2.1, z.2.2.2.2.2) i2 (x3 + u9.1) x4 else if ((P i2 0) x4.toNatClampNeg) = 2 then (f_X6_numberOf N (P i2) x4).bind fun u11 => (f_X1_weigh N (fun _ _ => (z.2.1 100 0)) u11).bind fun u12 => f_X10_size_77 N P (f_X10_size_21 N P n) (z.1, (ql_uq z.2.1 100 (fun _ => (u12.2 0 0))), z.2.2.1, z.2.2.2.1, z.2.2.2.2.1, z.2.2.2.2.2) i2 (x3 + u12.1) x4 else if ((P i2 0) x4.toNatClampNeg) = 3 then (f_X6_numberOf N (P i2) x4).bind fun u14 => (f_X3_weigh N (fun _ _ => (z.2.1 100 0)) u14).bind fun u15 => f_X10_size_77 N P (f_X10_size_21 N P n) (z.1, (ql_uq z.2.1 100 (fun _ => (u15.2 0 0))), z.2.2.1, z.2.2.2.1, z.2.2.2.2.1, z.2.2.2.2.2) i2 (x3 + u15.1) x4 else if ((P i2 0) x4.toNatClampNeg) = 4 then (f_X6_numberOf N (P i2) x4).bind fun u17 => (f_X9_weigh N (fun _ _ => (z.2.1 100 0)) u17).bind fun u18 => f_X10_size_77 N P (f_X10_size_21 N P n) (z.1, (ql_uq z.2.1 100 (fun _ => (u18.2 0 0))), z.2.2.1, z.2.2.2.1, z.2.2.2.2.1, z.2.2.2.2.2) i2 (x3 + u18.1) x4 else none else none
def f_X10_size_0 (N : Nat) (P : Nat → ql_St) (z : ql_V) (x1 : Int32) : Option (Int32 × ql_V) := (f_X10_isProgram N x1).bind fun u19 => if u19 = 0 then some ((-1), z) else if ql_ib x1 4 = true then f_X10_size_21 N P N z x1.toNatClampNeg 0 0 else none
def f_X10_size (N : Nat) (P : Nat → ql_St) (z : ql_V) (x1 : Int32) : Option (Int32 × ql_V) := f_X10_size_0 N P z x1
set_option maxHeartbeats 4000000 in
set_option maxRecDepth 100000 in
theorem w_X10_size_77 {p : Program} {l : Launch} {e : Env} {s : State} {m : MethodId} {args : Array Value} {below : List Frame} {meth : Method} {c : Code} {dC : Nat → ClassId} {dI : Nat → Nat → Nat} {A : Nat → Prop} {h : Nat} {ad : Nat → Nat} {aR : Nat} {adr : Nat → Nat} {aG : Nat} {adg : Nat → Nat} {aX : Nat} {adx : Nat → Nat} {aT : Nat} {kd : Nat → Nat} {cI cJ cB cP cQ : ClassId} {pad : Nat → Nat → Nat} {res : Int32 × ql_V} (C0 : ql_C p s m args meth c cX10_size 6 (some .int) wsX10_size RX10 (dC, dI) [(cI, .int), (cJ, .long), (cB, .byte), (cP, .object RX6), (cQ, .object RX5)] A) (N : Nat) (P : Nat → ql_St) (k21 : ql_V → Nat → Int32 → Int32 → Option (Int32 × ql_V)) (hk21 : ∀ (z : ql_V) (i2 : Nat) (x3 : Int32) (x4 : Int32), i2 < 5 → k21 z i2 x3 x4 = some res → ∀ (H : Heap) (locs : List Loc) (ls : Array Slot), va_P (dC, dI) vwCl ((ql_cw h ad aR adr aG adg aX adx aT kd cI cJ cB cP cQ pad P) z) H → va_D A ((ql_cw h ad aR adr aG adg aX adx aT kd cI cJ cB cP cQ pad P) z) → va_S A s.heap H locs → lv_has ls 6 [(0, .ref h), (2, .ref (pad i2 100)), (3, .int x3), (4, .int x4)] → W p l e rm_X10_size s m args below meth c H locs 0 0 (ql_Qi below (dC, dI) (ql_cw h ad aR adr aG adg aX adx aT kd cI cJ cB cP cQ pad P) A args s res) (F0 m 21 ls [])) : ∀ (z : ql_V) (i2 : Nat) (x3 : Int32) (x4 : Int32), i2 < 5 → f_X10_size_77 N P k21 z i2 x3 x4 = some res → ∀ (H : Heap) (locs : List Loc) (ls : Array Slot), va_P (dC, dI) vwCl ((ql_cw h ad aR adr aG adg aX adx aT kd cI cJ cB cP cQ pad P) z) H → va_D A ((ql_cw h ad aR adr aG adg aX adx aT kd cI cJ cB cP cQ pad P) z) → va_S A s.heap H locs → lv_has ls 6 [(0, .ref h), (2, .ref (pad i2 100)), (3, .int x3), (4, .int x4)] → W p l e rm_X10_size s m args below meth c H locs 0 0 (ql_Qi below (dC, dI) (ql_cw h ad aR adr aG adg aX adx aT kd cI cJ cB cP cQ pad P) A args s res) (F0 m 77 ls []) := by
  have C0q := C0
  obtain ⟨hx, hb, hr, hml, hown, hts, hlocks, hK, hA⟩ := C0q
  intro z i2 x3 x4 gi2 hf H locs ls hP hD hS hl
  unfold f_X10_size_77 at hf
  refine lv_iinc (v := (x4 + 1)) (lv' := [(4, .int (x4 + 1)), (0, .ref h), (2, .ref (pad i2 100)), (3, .int x3)]) hx hb dX10_size_77 hl (k := 3) rfl rfl (by decide) rfl (fun ls hl => ?_)
  refine lv_goto (tgt := 21) hx hb dX10_size_80 (by decide) ?_
  exact hk21 _ _ _ _ gi2 hf _ _ _ hP hD hS (lv_sub hl [1, 2, 3, 0] rfl)
set_option maxHeartbeats 4000000 in
set_option maxRecDepth 100000 in
theorem w_X10_size_21 {p : Program} {l : Launch} {e : Env} {s : State} {m : MethodId} {args : Array Value} {below : List Frame} {meth : Method} {c : Code} {dC : Nat → ClassId} {dI : Nat → Nat → Nat} {A : Nat → Prop} {h : Nat} {ad : Nat → Nat} {aR : Nat} {adr : Nat → Nat} {aG : Nat} {adg : Nat → Nat} {aX : Nat} {adx : Nat → Nat} {aT : Nat} {kd : Nat → Nat} {cI cJ cB cP cQ : ClassId} {pad : Nat → Nat → Nat} {res : Int32 × ql_V} (C0 : ql_C p s m args meth c cX10_size 6 (some .int) wsX10_size RX10 (dC, dI) [(cI, .int), (cJ, .long), (cB, .byte), (cP, .object RX6), (cQ, .object RX5)] A) (N : Nat) (P : Nat → ql_St) : ∀ (n : Nat), ∀ (z : ql_V) (i2 : Nat) (x3 : Int32) (x4 : Int32), i2 < 5 → f_X10_size_21 N P n z i2 x3 x4 = some res → ∀ (H : Heap) (locs : List Loc) (ls : Array Slot), va_P (dC, dI) vwCl ((ql_cw h ad aR adr aG adg aX adx aT kd cI cJ cB cP cQ pad P) z) H → va_D A ((ql_cw h ad aR adr aG adg aX adx aT kd cI cJ cB cP cQ pad P) z) → va_S A s.heap H locs → lv_has ls 6 [(0, .ref h), (2, .ref (pad i2 100)), (3, .int x3), (4, .int x4)] → W p l e rm_X10_size s m args below meth c H locs 0 0 (ql_Qi below (dC, dI) (ql_cw h ad aR adr aG adg aX adx aT kd cI cJ cB cP cQ pad P) A args s res) (F0 m 21 ls []) := by
  have C0q := C0
  obtain ⟨hx, hb, hr, hml, hown, hts, hlocks, hK, hA⟩ := C0q
  have fl163 := hts (Cond.fieldLink RX10 163 "TestedLoops$Plan" "steps" "I") (by decide +kernel)
  have fl166 := hts (Cond.fieldLink RX10 166 "TestedLoops$Plan" "kind" "[I") (by decide +kernel)
  have fl55 := hts (Cond.fieldLink RX10 55 "TestedLoops" "kinds" "[LTestedLoops$Part;") (by decide +kernel)
  have fl62 := hts (Cond.fieldLink RX10 62 "TestedLoops" "trace" "LTestedLoops$Trace;") (by decide +kernel)
  intro n
  induction n with
  | zero =>
    intro z i2 x3 x4 gi2 hf
    rw [f_X10_size_21] at hf
    cases hf
  | succ n ih =>
    intro z i2 x3 x4 gi2 hf H locs ls hP hD hS hl
    rw [f_X10_size_21] at hf
    refine lv_iload hx hb dX10_size_21 (lv_at hl 3 rfl) ?_
    refine lv_aload_n hx hb dX10_size_23 rfl (lv_at hl 1 rfl) ?_
    refine va_get (D := (dC, dI)) (ci := 6) (v := .int (P i2 3 0)) (C := RX6) (T := TX6) (N := 10) hx hb hts iw_X10_size_X6 hown hK.1 (ql_pl 25 hP rfl gi2) 0 rfl rfl 3 (by decide) fl163 (fun _ h9 => h9) rfl dX10_size_24 ?_
    refine lv_icmp_ge (tgt := 83) hx hb dX10_size_27 (by decide) (fun c1 => ?_) (fun c1 => ?_)
    · have hf := (if_pos c1).symm.trans hf
      refine lv_iload_n hx hb dX10_size_83 rfl (lv_at hl 2 rfl) ?_
      exact ql_iret C0 hf hP hD hS dX10_size_84
    · have hf := (if_neg c1).symm.trans hf
      refine lv_aload_n hx hb dX10_size_30 rfl (lv_at hl 1 rfl) ?_
      refine va_get (D := (dC, dI)) (ci := 6) (v := .ref (pad i2 0)) (C := RX6) (T := TX6) (N := 10) hx hb hts iw_X10_size_X6 hown hK.1 (ql_pl 25 hP rfl gi2) 0 rfl rfl 0 (by decide) fl166 (fun _ h9 => h9) rfl dX10_size_31 ?_
      refine lv_iload hx hb dX10_size_34 (lv_at hl 3 rfl) ?_
      have g0 := ql_in (ql_gt hf)
      have hf := ql_gx hf
      refine va_iald (f := (P i2 0)) hx hb hK.1 (ql_pl 25 hP rfl gi2) 1 0 rfl rfl g0 dX10_size_36 ?_
      refine lv_istore (lv' := [(5, .int ((P i2 0) x4.toNatClampNeg)), (0, .ref h), (2, .ref (pad i2 100)), (3, .int x3), (4, .int x4)]) hx hb dX10_size_37 hl (by decide) rfl (fun ls hl => ?_)
      refine lv_iload hx hb dX10_size_39 (lv_at hl 0 rfl) ?_
      refine lv_if_lt (tgt := 77) hx hb dX10_size_41 (by decide) (fun c2 => ?_) (fun c2 => ?_)
      · have hf := (if_pos c2).symm.trans hf
        exact w_X10_size_77 C0 N P (f_X10_size_21 N P n) ih _ _ _ _ gi2 hf _ _ _ hP hD hS (lv_sub hl [1, 2, 3, 4] rfl)
      · have hf := (if_neg c2).symm.trans hf
        refine lv_iload hx hb dX10_size_44 (lv_at hl 0 rfl) ?_
        refine lv_aload_n hx hb dX10_size_46 rfl (lv_at hl 1 rfl) ?_
        refine va_get (D := (dC, dI)) (ci := 10) (v := .ref (ad 7)) (C := RX10) (T := TX10) (N := 13) hx hb hts iw_X10_size_X10 hown hK.1 hP 0 rfl rfl 6 (by decide) fl55 (fun _ h9 => h9) rfl dX10_size_47 ?_
        refine va_alen (v := 5) hx hb hK.1 hP 3 4 rfl rfl (show Int32.ofNat 5 = 5 by decide) dX10_size_50 ?_
        refine lv_icmp_ge (tgt := 77) hx hb dX10_size_51 (by decide) (fun c3 => ?_) (fun c3 => ?_)
        · have hf := (if_pos c3).symm.trans hf
          exact w_X10_size_77 C0 N P (f_X10_size_21 N P n) ih _ _ _ _ gi2 hf _ _ _ hP hD hS (lv_sub hl [1, 2, 3, 4] rfl)
        · have hf := (if_neg c3).symm.trans hf
          refine lv_iload_n hx hb dX10_size_54 rfl (lv_at hl 3 rfl) ?_
          refine lv_aload_n hx hb dX10_size_55 rfl (lv_at hl 1 rfl) ?_
          refine va_get (D := (dC, dI)) (ci := 10) (v := .ref (ad 7)) (C := RX10) (T := TX10) (N := 13) hx hb hts iw_X10_size_X10 hown hK.1 hP 0 rfl rfl 6 (by decide) fl55 (fun _ h9 => h9) rfl dX10_size_56 ?_
          refine lv_iload hx hb dX10_size_59 (lv_at hl 0 rfl) ?_
          by_cases c4 : ((P i2 0) x4.toNatClampNeg) = 0
          · have hf := (if_pos c4).symm.trans hf
            refine va_aldq (f := ql_kf kd) hx hb hK.1 hP 3 4 rfl rfl (by rw [c4]; exact ql_in (by decide)) dX10_size_61 ?_
            refine W.eq (g2 := F0 m 62 ls [.ref (kd 0), .int x3]) (by rw [c4]; rfl) ?_
            refine lv_aload_n hx hb dX10_size_62 rfl (lv_at hl 2 rfl) ?_
            refine lv_iload hx hb dX10_size_63 (lv_at hl 4 rfl) ?_
            obtain ⟨u5, hu5, hf⟩ := ql_bd hf
            refine ql_callRVi (As := [.int x4]) (rest := [.ref (kd 0), .int x3]) C0 (c_X6_numberOf l dC dI (pad i2 100) (pad i2) cI N (P i2) x4 u5 hu5) (cwV 1 hts gX10_size_X6_numberOf rfl rfl rfl qv_X6_numberOf ⟨Nat.le_of_ble_eq_true rfl, Nat.le_of_ble_eq_true rfl⟩) (va_recv hK.1 (ql_pl 25 hP rfl gi2) (ci := 6) (q0 := 0) rfl rfl) (hK.sub [0] rfl) (ql_pl 25 hP rfl gi2) hS hl.1 rfl rfl (Nat.le_of_ble_eq_true rfl) dX10_size_65 (fun H1 locs hk hS => ?_)
            have hP := ql_keep hP hk
            refine lv_aload_n hx hb dX10_size_68 rfl (lv_at hl 1 rfl) ?_
            refine va_get (D := (dC, dI)) (ci := 10) (v := .ref aT) (C := RX10) (T := TX10) (N := 13) hx hb hts iw_X10_size_X10 hown hK.1 hP 0 rfl rfl 7 (by decide) fl62 (fun _ h9 => h9) rfl dX10_size_69 ?_
            obtain ⟨u6, hu6, hf⟩ := ql_bd hf
            refine ql_subVi (wr := [(h, .inr (10, [.ref (ad 0), .int (z.1 1 0), .ref (ad 2), .ref aR, .ref aX, .ref aG, .ref (ad 7), .ref aT, .ref (ad 9), .ref (ad 10), .ref (ad 11), .int (z.1 12 0), .int (z.1 13 0)])), (ad 0, .inl (cB, 300, .inl (z.1 0))), (ad 2, .inl (cP, 4, .inr (.inr (.inr (.inr (ql_pf pad)))))), (ad 7, .inl (cQ, 5, .inr (.inr (.inr (.inr (ql_kf kd)))))), (ad 9, .inl (cI, 13, .inl (z.1 9))), (ad 10, .inl (cJ, 17, .inr (.inl (z.2.1 10)))), (ad 11, .inl (cJ, 17, .inr (.inl (z.2.1 11)))), (kd 0, .inr (5, [])), (kd 1, .inr (0, [])), (kd 2, .inr (1, [])), (kd 3, .inr (3, [])), (kd 4, .inr (9, []))] ++ (ql_rc aR adr (pad 4 100) cI z.2.2.1 ++ (ql_gc aG adg cI z.2.2.2.1 ++ (ql_xc aX adx cI cJ (z.2.2.2.2.1, z.2.2.2.2.2) ++ ql_pls pad cI P)))) (As := [.int u5, .ref aT]) (rest := [.int x3]) C0 (c_X5_weigh l dC dI (kd 0) aT N (fun _ _ => (z.2.1 100 0)) u5 u6 hu6) (cwV 2 hts gX10_size_X5_weigh rfl rfl rfl qv_X5_weigh ⟨Nat.le_of_ble_eq_true rfl, Nat.le_of_ble_eq_true rfl⟩) (hK.sub [] rfl) [7] [0, 1, 2, 3, 4, 5, 6, 8, 9, 10, 11, 12, 13, 14, 15, 16, 17, 18, 19, 20, 21, 22, 23, 24, 25, 26, 27, 28, 29, 30, 31, 32, 33, 34, 35, 36, 37, 38, 39, 40, 41, 42, 43, 44, 45, 46, 47, 48, 49, 50, 51, 52, 53, 54, 55, 56, 57, 58, 59, 60, 61, 62, 63, 64] rfl rfl rfl rfl (by decide) (va_recv hK.1 hP (ci := 5) (q0 := 8) rfl rfl) hP hD hS hl.1 rfl rfl (Nat.le_of_ble_eq_true rfl) dX10_size_72 (fun H locs hP hD hS => ?_)
            have hP : va_P (dC, dI) vwCl ((ql_cw h ad aR adr aG adg aX adx aT kd cI cJ cB cP cQ pad P) (z.1, (ql_uq z.2.1 100 (fun _ => (u6.2 0 0))), z.2.2.1, z.2.2.2.1, z.2.2.2.2.1, z.2.2.2.2.2)) _ := hP.sub [0, 1, 2, 3, 4, 5, 6, 64, 7, 8, 9, 10, 11, 12, 13, 14, 15, 16, 17, 18, 19, 20, 21, 22, 23, 24, 25, 26, 27, 28, 29, 30, 31, 32, 33, 34, 35, 36, 37, 38, 39, 40, 41, 42, 43, 44, 45, 46, 47, 48, 49, 50, 51, 52, 53, 54, 55, 56, 57, 58, 59, 60, 61, 62, 63] rfl
            have hD : va_D A ((ql_cw h ad aR adr aG adg aX adx aT kd cI cJ cB cP cQ pad P) (z.1, (ql_uq z.2.1 100 (fun _ => (u6.2 0 0))), z.2.2.1, z.2.2.2.1, z.2.2.2.2.1, z.2.2.2.2.2)) := hD.sub [0, 1, 2, 3, 4, 5, 6, 64, 7, 8, 9, 10, 11, 12, 13, 14, 15, 16, 17, 18, 19, 20, 21, 22, 23, 24, 25, 26, 27, 28, 29, 30, 31, 32, 33, 34, 35, 36, 37, 38, 39, 40, 41, 42, 43, 44, 45, 46, 47, 48, 49, 50, 51, 52, 53, 54, 55, 56, 57, 58, 59, 60, 61, 62, 63] (by decide) rfl
            refine lv_iadd hx hb dX10_size_75 ?_
            refine lv_istore_n (lv' := [(3, .int (x3 + u6.1)), (5, .int ((P i2 0) x4.toNatClampNeg)), (0, .ref h), (2, .ref (pad i2 100)), (4, .int x4)]) hx hb dX10_size_76 rfl hl (by decide) rfl (fun ls hl => ?_)
            exact w_X10_size_77 C0 N P (f_X10_size_21 N P n) ih _ _ _ _ gi2 hf _ _ _ hP hD hS (lv_sub hl [2, 3, 0, 4] rfl)
          have hf := (if_neg c4).symm.trans hf
          by_cases c7 : ((P i2 0) x4.toNatClampNeg) = 1
          · have hf := (if_pos c7).symm.trans hf
            refine va_aldq (f := ql_kf kd) hx hb hK.1 hP 3 4 rfl rfl (by rw [c7]; exact ql_in (by decide)) dX10_size_61 ?_
            refine W.eq (g2 := F0 m 62 ls [.ref (kd 1), .int x3]) (by rw [c7]; rfl) ?_
            refine lv_aload_n hx hb dX10_size_62 rfl (lv_at hl 2 rfl) ?_
            refine lv_iload hx hb dX10_size_63 (lv_at hl 4 rfl) ?_
            obtain ⟨u8, hu8, hf⟩ := ql_bd hf
            refine ql_callRVi (As := [.int x4]) (rest := [.ref (kd 1), .int x3]) C0 (c_X6_numberOf l dC dI (pad i2 100) (pad i2) cI N (P i2) x4 u8 hu8) (cwV 1 hts gX10_size_X6_numberOf rfl rfl rfl qv_X6_numberOf ⟨Nat.le_of_ble_eq_true rfl, Nat.le_of_ble_eq_true rfl⟩) (va_recv hK.1 (ql_pl 25 hP rfl gi2) (ci := 6) (q0 := 0) rfl rfl) (hK.sub [0] rfl) (ql_pl 25 hP rfl gi2) hS hl.1 rfl rfl (Nat.le_of_ble_eq_true rfl) dX10_size_65 (fun H1 locs hk hS => ?_)
            have hP := ql_keep hP hk
            refine lv_aload_n hx hb dX10_size_68 rfl (lv_at hl 1 rfl) ?_
            refine va_get (D := (dC, dI)) (ci := 10) (v := .ref aT) (C := RX10) (T := TX10) (N := 13) hx hb hts iw_X10_size_X10 hown hK.1 hP 0 rfl rfl 7 (by decide) fl62 (fun _ h9 => h9) rfl dX10_size_69 ?_
            obtain ⟨u9, hu9, hf⟩ := ql_bd hf
            refine ql_subUi (wr := [(h, .inr (10, [.ref (ad 0), .int (z.1 1 0), .ref (ad 2), .ref aR, .ref aX, .ref aG, .ref (ad 7), .ref aT, .ref (ad 9), .ref (ad 10), .ref (ad 11), .int (z.1 12 0), .int (z.1 13 0)])), (ad 0, .inl (cB, 300, .inl (z.1 0))), (ad 2, .inl (cP, 4, .inr (.inr (.inr (.inr (ql_pf pad)))))), (ad 7, .inl (cQ, 5, .inr (.inr (.inr (.inr (ql_kf kd)))))), (ad 9, .inl (cI, 13, .inl (z.1 9))), (ad 10, .inl (cJ, 17, .inr (.inl (z.2.1 10)))), (ad 11, .inl (cJ, 17, .inr (.inl (z.2.1 11)))), (kd 0, .inr (5, [])), (kd 2, .inr (1, [])), (kd 3, .inr (3, [])), (kd 4, .inr (9, []))] ++ (ql_rc aR adr (pad 4 100) cI z.2.2.1 ++ (ql_gc aG adg cI z.2.2.2.1 ++ (ql_xc aX adx cI cJ (z.2.2.2.2.1, z.2.2.2.2.2) ++ ql_pls pad cI P)))) (As := [.int u8, .ref aT]) (rest := [.int x3]) C0 (c_X0_weigh l dC dI (kd 1) aT 0 RX0 TX0 rfl N (fun _ _ => (z.2.1 100 0)) u8 u9 hu9) (va_cwO 2 hts gX10_size_X0_weigh_u172X0 rfl rfl rfl (b0 := cX5_weigh) (m0 := 3) (r0 := some .int) (by decide +kernel) (by decide +kernel) ⟨Nat.le_of_ble_eq_true rfl, Nat.le_of_ble_eq_true rfl⟩) (hK.sub [] rfl) [9, 7] [0, 1, 2, 3, 4, 5, 6, 8, 10, 11, 12, 13, 14, 15, 16, 17, 18, 19, 20, 21, 22, 23, 24, 25, 26, 27, 28, 29, 30, 31, 32, 33, 34, 35, 36, 37, 38, 39, 40, 41, 42, 43, 44, 45, 46, 47, 48, 49, 50, 51, 52, 53, 54, 55, 56, 57, 58, 59, 60, 61, 62, 63, 64] rfl rfl rfl rfl (by decide) (va_recv hK.1 hP (ci := 0) (q0 := 9) rfl rfl) hP hD hS hl.1 rfl rfl (Nat.le_of_ble_eq_true rfl) dX10_size_72 (fun H locs hP hD hS => ?_)
            have hP : va_P (dC, dI) vwCl ((ql_cw h ad aR adr aG adg aX adx aT kd cI cJ cB cP cQ pad P) (z.1, (ql_uq z.2.1 100 (fun _ => (u9.2 0 0))), z.2.2.1, z.2.2.2.1, z.2.2.2.2.1, z.2.2.2.2.2)) _ := hP.sub [0, 1, 2, 3, 4, 5, 6, 64, 7, 63, 8, 9, 10, 11, 12, 13, 14, 15, 16, 17, 18, 19, 20, 21, 22, 23, 24, 25, 26, 27, 28, 29, 30, 31, 32, 33, 34, 35, 36, 37, 38, 39, 40, 41, 42, 43, 44, 45, 46, 47, 48, 49, 50, 51, 52, 53, 54, 55, 56, 57, 58, 59, 60, 61, 62] rfl
            have hD : va_D A ((ql_cw h ad aR adr aG adg aX adx aT kd cI cJ cB cP cQ pad P) (z.1, (ql_uq z.2.1 100 (fun _ => (u9.2 0 0))), z.2.2.1, z.2.2.2.1, z.2.2.2.2.1, z.2.2.2.2.2)) := hD.sub [0, 1, 2, 3, 4, 5, 6, 64, 7, 63, 8, 9, 10, 11, 12, 13, 14, 15, 16, 17, 18, 19, 20, 21, 22, 23, 24, 25, 26, 27, 28, 29, 30, 31, 32, 33, 34, 35, 36, 37, 38, 39, 40, 41, 42, 43, 44, 45, 46, 47, 48, 49, 50, 51, 52, 53, 54, 55, 56, 57, 58, 59, 60, 61, 62] (by decide) rfl
            refine lv_iadd hx hb dX10_size_75 ?_
            refine lv_istore_n (lv' := [(3, .int (x3 + u9.1)), (5, .int ((P i2 0) x4.toNatClampNeg)), (0, .ref h), (2, .ref (pad i2 100)), (4, .int x4)]) hx hb dX10_size_76 rfl hl (by decide) rfl (fun ls hl => ?_)
            exact w_X10_size_77 C0 N P (f_X10_size_21 N P n) ih _ _ _ _ gi2 hf _ _ _ hP hD hS (lv_sub hl [2, 3, 0, 4] rfl)
          have hf := (if_neg c7).symm.trans hf
          by_cases c10 : ((P i2 0) x4.toNatClampNeg) = 2
          · have hf := (if_pos c10).symm.trans hf
            refine va_aldq (f := ql_kf kd) hx hb hK.1 hP 3 4 rfl rfl (by rw [c10]; exact ql_in (by decide)) dX10_size_61 ?_
            refine W.eq (g2 := F0 m 62 ls [.ref (kd 2), .int x3]) (by rw [c10]; rfl) ?_
            refine lv_aload_n hx hb dX10_size_62 rfl (lv_at hl 2 rfl) ?_
            refine lv_iload hx hb dX10_size_63 (lv_at hl 4 rfl) ?_
            obtain ⟨u11, hu11, hf⟩ := ql_bd hf
            refine ql_callRVi (As := [.int x4]) (rest := [.ref (kd 2), .int x3]) C0 (c_X6_numberOf l dC dI (pad i2 100) (pad i2) cI N (P i2) x4 u11 hu11) (cwV 1 hts gX10_size_X6_numberOf rfl rfl rfl qv_X6_numberOf ⟨Nat.le_of_ble_eq_true rfl, Nat.le_of_ble_eq_true rfl⟩) (va_recv hK.1 (ql_pl 25 hP rfl gi2) (ci := 6) (q0 := 0) rfl rfl) (hK.sub [0] rfl) (ql_pl 25 hP rfl gi2) hS hl.1 rfl rfl (Nat.le_of_ble_eq_true rfl) dX10_size_65 (fun H1 locs hk hS => ?_)
            have hP := ql_keep hP hk
            refine lv_aload_n hx hb dX10_size_68 rfl (lv_at hl 1 rfl) ?_
            refine va_get (D := (dC, dI)) (ci := 10) (v := .ref aT) (C := RX10) (T := TX10) (N := 13) hx hb hts iw_X10_size_X10 hown hK.1 hP 0 rfl rfl 7 (by decide) fl62 (fun _ h9 => h9) rfl dX10_size_69 ?_
            obtain ⟨u12, hu12, hf⟩ := ql_bd hf
            refine ql_subUi (wr := [(h, .inr (10, [.ref (ad 0), .int (z.1 1 0), .ref (ad 2), .ref aR, .ref aX, .ref aG, .ref (ad 7), .ref aT, .ref (ad 9), .ref (ad 10), .ref (ad 11), .int (z.1 12 0), .int (z.1 13 0)])), (ad 0, .inl (cB, 300, .inl (z.1 0))), (ad 2, .inl (cP, 4, .inr (.inr (.inr (.inr (ql_pf pad)))))), (ad 7, .inl (cQ, 5, .inr (.inr (.inr (.inr (ql_kf kd)))))), (ad 9, .inl (cI, 13, .inl (z.1 9))), (ad 10, .inl (cJ, 17, .inr (.inl (z.2.1 10)))), (ad 11, .inl (cJ, 17, .inr (.inl (z.2.1 11)))), (kd 0, .inr (5, [])), (kd 1, .inr (0, [])), (kd 3, .inr (3, [])), (kd 4, .inr (9, []))] ++ (ql_rc aR adr (pad 4 100) cI z.2.2.1 ++ (ql_gc aG adg cI z.2.2.2.1 ++ (ql_xc aX adx cI cJ (z.2.2.2.2.1, z.2.2.2.2.2) ++ ql_pls pad cI P)))) (As := [.int u11, .ref aT]) (rest := [.int x3]) C0 (c_X1_weigh l dC dI (kd 2) aT 1 RX1 TX1 rfl N (fun _ _ => (z.2.1 100 0)) u11 u12 hu12) (va_cwO 2 hts gX10_size_X1_weigh_u172X1 rfl rfl rfl (b0 := cX5_weigh) (m0 := 3) (r0 := some .int) (by decide +kernel) (by decide +kernel) ⟨Nat.le_of_ble_eq_true rfl, Nat.le_of_ble_eq_true rfl⟩) (hK.sub [] rfl) [10, 7] [0, 1, 2, 3, 4, 5, 6, 8, 9, 11, 12, 13, 14, 15, 16, 17, 18, 19, 20, 21, 22, 23, 24, 25, 26, 27, 28, 29, 30, 31, 32, 33, 34, 35, 36, 37, 38, 39, 40, 41, 42, 43, 44, 45, 46, 47, 48, 49, 50, 51, 52, 53, 54, 55, 56, 57, 58, 59, 60, 61, 62, 63, 64] rfl rfl rfl rfl (by decide) (va_recv hK.1 hP (ci := 1) (q0 := 10) rfl rfl) hP hD hS hl.1 rfl rfl (Nat.le_of_ble_eq_true rfl) dX10_size_72 (fun H locs hP hD hS => ?_)
            have hP : va_P (dC, dI) vwCl ((ql_cw h ad aR adr aG adg aX adx aT kd cI cJ cB cP cQ pad P) (z.1, (ql_uq z.2.1 100 (fun _ => (u12.2 0 0))), z.2.2.1, z.2.2.2.1, z.2.2.2.2.1, z.2.2.2.2.2)) _ := hP.sub [0, 1, 2, 3, 4, 5, 6, 64, 7, 8, 63, 9, 10, 11, 12, 13, 14, 15, 16, 17, 18, 19, 20, 21, 22, 23, 24, 25, 26, 27, 28, 29, 30, 31, 32, 33, 34, 35, 36, 37, 38, 39, 40, 41, 42, 43, 44, 45, 46, 47, 48, 49, 50, 51, 52, 53, 54, 55, 56, 57, 58, 59, 60, 61, 62] rfl
            have hD : va_D A ((ql_cw h ad aR adr aG adg aX adx aT kd cI cJ cB cP cQ pad P) (z.1, (ql_uq z.2.1 100 (fun _ => (u12.2 0 0))), z.2.2.1, z.2.2.2.1, z.2.2.2.2.1, z.2.2.2.2.2)) := hD.sub [0, 1, 2, 3, 4, 5, 6, 64, 7, 8, 63, 9, 10, 11, 12, 13, 14, 15, 16, 17, 18, 19, 20, 21, 22, 23, 24, 25, 26, 27, 28, 29, 30, 31, 32, 33, 34, 35, 36, 37, 38, 39, 40, 41, 42, 43, 44, 45, 46, 47, 48, 49, 50, 51, 52, 53, 54, 55, 56, 57, 58, 59, 60, 61, 62] (by decide) rfl
            refine lv_iadd hx hb dX10_size_75 ?_
            refine lv_istore_n (lv' := [(3, .int (x3 + u12.1)), (5, .int ((P i2 0) x4.toNatClampNeg)), (0, .ref h), (2, .ref (pad i2 100)), (4, .int x4)]) hx hb dX10_size_76 rfl hl (by decide) rfl (fun ls hl => ?_)
            exact w_X10_size_77 C0 N P (f_X10_size_21 N P n) ih _ _ _ _ gi2 hf _ _ _ hP hD hS (lv_sub hl [2, 3, 0, 4] rfl)
          have hf := (if_neg c10).symm.trans hf
          by_cases c13 : ((P i2 0) x4.toNatClampNeg) = 3
          · have hf := (if_pos c13).symm.trans hf
            refine va_aldq (f := ql_kf kd) hx hb hK.1 hP 3 4 rfl rfl (by rw [c13]; exact ql_in (by decide)) dX10_size_61 ?_
            refine W.eq (g2 := F0 m 62 ls [.ref (kd 3), .int x3]) (by rw [c13]; rfl) ?_
            refine lv_aload_n hx hb dX10_size_62 rfl (lv_at hl 2 rfl) ?_
            refine lv_iload hx hb dX10_size_63 (lv_at hl 4 rfl) ?_
            obtain ⟨u14, hu14, hf⟩ := ql_bd hf
            refine ql_callRVi (As := [.int x4]) (rest := [.ref (kd 3), .int x3]) C0 (c_X6_numberOf l dC dI (pad i2 100) (pad i2) cI N (P i2) x4 u14 hu14) (cwV 1 hts gX10_size_X6_numberOf rfl rfl rfl qv_X6_numberOf ⟨Nat.le_of_ble_eq_true rfl, Nat.le_of_ble_eq_true rfl⟩) (va_recv hK.1 (ql_pl 25 hP rfl gi2) (ci := 6) (q0 := 0) rfl rfl) (hK.sub [0] rfl) (ql_pl 25 hP rfl gi2) hS hl.1 rfl rfl (Nat.le_of_ble_eq_true rfl) dX10_size_65 (fun H1 locs hk hS => ?_)
            have hP := ql_keep hP hk
            refine lv_aload_n hx hb dX10_size_68 rfl (lv_at hl 1 rfl) ?_
            refine va_get (D := (dC, dI)) (ci := 10) (v := .ref aT) (C := RX10) (T := TX10) (N := 13) hx hb hts iw_X10_size_X10 hown hK.1 hP 0 rfl rfl 7 (by decide) fl62 (fun _ h9 => h9) rfl dX10_size_69 ?_
            obtain ⟨u15, hu15, hf⟩ := ql_bd hf
            refine ql_subUi (wr := [(h, .inr (10, [.ref (ad 0), .int (z.1 1 0), .ref (ad 2), .ref aR, .ref aX, .ref aG, .ref (ad 7), .ref aT, .ref (ad 9), .ref (ad 10), .ref (ad 11), .int (z.1 12 0), .int (z.1 13 0)])), (ad 0, .inl (cB, 300, .inl (z.1 0))), (ad 2, .inl (cP, 4, .inr (.inr (.inr (.inr (ql_pf pad)))))), (ad 7, .inl (cQ, 5, .inr (.inr (.inr (.inr (ql_kf kd)))))), (ad 9, .inl (cI, 13, .inl (z.1 9))), (ad 10, .inl (cJ, 17, .inr (.inl (z.2.1 10)))), (ad 11, .inl (cJ, 17, .inr (.inl (z.2.1 11)))), (kd 0, .inr (5, [])), (kd 1, .inr (0, [])), (kd 2, .inr (1, [])), (kd 4, .inr (9, []))] ++ (ql_rc aR adr (pad 4 100) cI z.2.2.1 ++ (ql_gc aG adg cI z.2.2.2.1 ++ (ql_xc aX adx cI cJ (z.2.2.2.2.1, z.2.2.2.2.2) ++ ql_pls pad cI P)))) (As := [.int u14, .ref aT]) (rest := [.int x3]) C0 (c_X3_weigh l dC dI (kd 3) aT 3 RX3 TX3 rfl N (fun _ _ => (z.2.1 100 0)) u14 u15 hu15) (va_cwO 2 hts gX10_size_X3_weigh_u172X3 rfl rfl rfl (b0 := cX5_weigh) (m0 := 3) (r0 := some .int) (by decide +kernel) (by decide +kernel) ⟨Nat.le_of_ble_eq_true rfl, Nat.le_of_ble_eq_true rfl⟩) (hK.sub [] rfl) [11, 7] [0, 1, 2, 3, 4, 5, 6, 8, 9, 10, 12, 13, 14, 15, 16, 17, 18, 19, 20, 21, 22, 23, 24, 25, 26, 27, 28, 29, 30, 31, 32, 33, 34, 35, 36, 37, 38, 39, 40, 41, 42, 43, 44, 45, 46, 47, 48, 49, 50, 51, 52, 53, 54, 55, 56, 57, 58, 59, 60, 61, 62, 63, 64] rfl rfl rfl rfl (by decide) (va_recv hK.1 hP (ci := 3) (q0 := 11) rfl rfl) hP hD hS hl.1 rfl rfl (Nat.le_of_ble_eq_true rfl) dX10_size_72 (fun H locs hP hD hS => ?_)
            have hP : va_P (dC, dI) vwCl ((ql_cw h ad aR adr aG adg aX adx aT kd cI cJ cB cP cQ pad P) (z.1, (ql_uq z.2.1 100 (fun _ => (u15.2 0 0))), z.2.2.1, z.2.2.2.1, z.2.2.2.2.1, z.2.2.2.2.2)) _ := hP.sub [0, 1, 2, 3, 4, 5, 6, 64, 7, 8, 9, 63, 10, 11, 12, 13, 14, 15, 16, 17, 18, 19, 20, 21, 22, 23, 24, 25, 26, 27, 28, 29, 30, 31, 32, 33, 34, 35, 36, 37, 38, 39, 40, 41, 42, 43, 44, 45, 46, 47, 48, 49, 50, 51, 52, 53, 54, 55, 56, 57, 58, 59, 60, 61, 62] rfl
            have hD : va_D A ((ql_cw h ad aR adr aG adg aX adx aT kd cI cJ cB cP cQ pad P) (z.1, (ql_uq z.2.1 100 (fun _ => (u15.2 0 0))), z.2.2.1, z.2.2.2.1, z.2.2.2.2.1, z.2.2.2.2.2)) := hD.sub [0, 1, 2, 3, 4, 5, 6, 64, 7, 8, 9, 63, 10, 11, 12, 13, 14, 15, 16, 17, 18, 19, 20, 21, 22, 23, 24, 25, 26, 27, 28, 29, 30, 31, 32, 33, 34, 35, 36, 37, 38, 39, 40, 41, 42, 43, 44, 45, 46, 47, 48, 49, 50, 51, 52, 53, 54, 55, 56, 57, 58, 59, 60, 61, 62] (by decide) rfl
            refine lv_iadd hx hb dX10_size_75 ?_
            refine lv_istore_n (lv' := [(3, .int (x3 + u15.1)), (5, .int ((P i2 0) x4.toNatClampNeg)), (0, .ref h), (2, .ref (pad i2 100)), (4, .int x4)]) hx hb dX10_size_76 rfl hl (by decide) rfl (fun ls hl => ?_)
            exact w_X10_size_77 C0 N P (f_X10_size_21 N P n) ih _ _ _ _ gi2 hf _ _ _ hP hD hS (lv_sub hl [2, 3, 0, 4] rfl)
          have hf := (if_neg c13).symm.trans hf
          by_cases c16 : ((P i2 0) x4.toNatClampNeg) = 4
          · have hf := (if_pos c16).symm.trans hf
            refine va_aldq (f := ql_kf kd) hx hb hK.1 hP 3 4 rfl rfl (by rw [c16]; exact ql_in (by decide)) dX10_size_61 ?_
            refine W.eq (g2 := F0 m 62 ls [.ref (kd 4), .int x3]) (by rw [c16]; rfl) ?_
            refine lv_aload_n hx hb dX10_size_62 rfl (lv_at hl 2 rfl) ?_
            refine lv_iload hx hb dX10_size_63 (lv_at hl 4 rfl) ?_
            obtain ⟨u17, hu17, hf⟩ := ql_bd hf
            refine ql_callRVi (As := [.int x4]) (rest := [.ref (kd 4), .int x3]) C0 (c_X6_numberOf l dC dI (pad i2 100) (pad i2) cI N (P i2) x4 u17 hu17) (cwV 1 hts gX10_size_X6_numberOf rfl rfl rfl qv_X6_numberOf ⟨Nat.le_of_ble_eq_true rfl, Nat.le_of_ble_eq_true rfl⟩) (va_recv hK.1 (ql_pl 25 hP rfl gi2) (ci := 6) (q0 := 0) rfl rfl) (hK.sub [0] rfl) (ql_pl 25 hP rfl gi2) hS hl.1 rfl rfl (Nat.le_of_ble_eq_true rfl) dX10_size_65 (fun H1 locs hk hS => ?_)
            have hP := ql_keep hP hk
            refine lv_aload_n hx hb dX10_size_68 rfl (lv_at hl 1 rfl) ?_
            refine va_get (D := (dC, dI)) (ci := 10) (v := .ref aT) (C := RX10) (T := TX10) (N := 13) hx hb hts iw_X10_size_X10 hown hK.1 hP 0 rfl rfl 7 (by decide) fl62 (fun _ h9 => h9) rfl dX10_size_69 ?_
            obtain ⟨u18, hu18, hf⟩ := ql_bd hf
            refine ql_subUi (wr := [(h, .inr (10, [.ref (ad 0), .int (z.1 1 0), .ref (ad 2), .ref aR, .ref aX, .ref aG, .ref (ad 7), .ref aT, .ref (ad 9), .ref (ad 10), .ref (ad 11), .int (z.1 12 0), .int (z.1 13 0)])), (ad 0, .inl (cB, 300, .inl (z.1 0))), (ad 2, .inl (cP, 4, .inr (.inr (.inr (.inr (ql_pf pad)))))), (ad 7, .inl (cQ, 5, .inr (.inr (.inr (.inr (ql_kf kd)))))), (ad 9, .inl (cI, 13, .inl (z.1 9))), (ad 10, .inl (cJ, 17, .inr (.inl (z.2.1 10)))), (ad 11, .inl (cJ, 17, .inr (.inl (z.2.1 11)))), (kd 0, .inr (5, [])), (kd 1, .inr (0, [])), (kd 2, .inr (1, [])), (kd 3, .inr (3, []))] ++ (ql_rc aR adr (pad 4 100) cI z.2.2.1 ++ (ql_gc aG adg cI z.2.2.2.1 ++ (ql_xc aX adx cI cJ (z.2.2.2.2.1, z.2.2.2.2.2) ++ ql_pls pad cI P)))) (As := [.int u17, .ref aT]) (rest := [.int x3]) C0 (c_X9_weigh l dC dI (kd 4) aT 9 RX9 TX9 rfl N (fun _ _ => (z.2.1 100 0)) u17 u18 hu18) (va_cwO 2 hts gX10_size_X9_weigh_u172X9 rfl rfl rfl (b0 := cX5_weigh) (m0 := 3) (r0 := some .int) (by decide +kernel) (by decide +kernel) ⟨Nat.le_of_ble_eq_true rfl, Nat.le_of_ble_eq_true rfl⟩) (hK.sub [] rfl) [12, 7] [0, 1, 2, 3, 4, 5, 6, 8, 9, 10, 11, 13, 14, 15, 16, 17, 18, 19, 20, 21, 22, 23, 24, 25, 26, 27, 28, 29, 30, 31, 32, 33, 34, 35, 36, 37, 38, 39, 40, 41, 42, 43, 44, 45, 46, 47, 48, 49, 50, 51, 52, 53, 54, 55, 56, 57, 58, 59, 60, 61, 62, 63, 64] rfl rfl rfl rfl (by decide) (va_recv hK.1 hP (ci := 9) (q0 := 12) rfl rfl) hP hD hS hl.1 rfl rfl (Nat.le_of_ble_eq_true rfl) dX10_size_72 (fun H locs hP hD hS => ?_)
            have hP : va_P (dC, dI) vwCl ((ql_cw h ad aR adr aG adg aX adx aT kd cI cJ cB cP cQ pad P) (z.1, (ql_uq z.2.1 100 (fun _ => (u18.2 0 0))), z.2.2.1, z.2.2.2.1, z.2.2.2.2.1, z.2.2.2.2.2)) _ := hP.sub [0, 1, 2, 3, 4, 5, 6, 64, 7, 8, 9, 10, 63, 11, 12, 13, 14, 15, 16, 17, 18, 19, 20, 21, 22, 23, 24, 25, 26, 27, 28, 29, 30, 31, 32, 33, 34, 35, 36, 37, 38, 39, 40, 41, 42, 43, 44, 45, 46, 47, 48, 49, 50, 51, 52, 53, 54, 55, 56, 57, 58, 59, 60, 61, 62] rfl
            have hD : va_D A ((ql_cw h ad aR adr aG adg aX adx aT kd cI cJ cB cP cQ pad P) (z.1, (ql_uq z.2.1 100 (fun _ => (u18.2 0 0))), z.2.2.1, z.2.2.2.1, z.2.2.2.2.1, z.2.2.2.2.2)) := hD.sub [0, 1, 2, 3, 4, 5, 6, 64, 7, 8, 9, 10, 63, 11, 12, 13, 14, 15, 16, 17, 18, 19, 20, 21, 22, 23, 24, 25, 26, 27, 28, 29, 30, 31, 32, 33, 34, 35, 36, 37, 38, 39, 40, 41, 42, 43, 44, 45, 46, 47, 48, 49, 50, 51, 52, 53, 54, 55, 56, 57, 58, 59, 60, 61, 62] (by decide) rfl
            refine lv_iadd hx hb dX10_size_75 ?_
            refine lv_istore_n (lv' := [(3, .int (x3 + u18.1)), (5, .int ((P i2 0) x4.toNatClampNeg)), (0, .ref h), (2, .ref (pad i2 100)), (4, .int x4)]) hx hb dX10_size_76 rfl hl (by decide) rfl (fun ls hl => ?_)
            exact w_X10_size_77 C0 N P (f_X10_size_21 N P n) ih _ _ _ _ gi2 hf _ _ _ hP hD hS (lv_sub hl [2, 3, 0, 4] rfl)
          have hf := (if_neg c16).symm.trans hf
          cases hf
set_option maxHeartbeats 4000000 in
set_option maxRecDepth 100000 in
theorem w_X10_size_0 {p : Program} {l : Launch} {e : Env} {s : State} {m : MethodId} {args : Array Value} {below : List Frame} {meth : Method} {c : Code} {dC : Nat → ClassId} {dI : Nat → Nat → Nat} {A : Nat → Prop} {h : Nat} {ad : Nat → Nat} {aR : Nat} {adr : Nat → Nat} {aG : Nat} {adg : Nat → Nat} {aX : Nat} {adx : Nat → Nat} {aT : Nat} {kd : Nat → Nat} {cI cJ cB cP cQ : ClassId} {pad : Nat → Nat → Nat} {res : Int32 × ql_V} (C0 : ql_C p s m args meth c cX10_size 6 (some .int) wsX10_size RX10 (dC, dI) [(cI, .int), (cJ, .long), (cB, .byte), (cP, .object RX6), (cQ, .object RX5)] A) (N : Nat) (P : Nat → ql_St) : ∀ (z : ql_V) (x1 : Int32), f_X10_size_0 N P z x1 = some res → ∀ (H : Heap) (locs : List Loc) (ls : Array Slot), va_P (dC, dI) vwCl ((ql_cw h ad aR adr aG adg aX adx aT kd cI cJ cB cP cQ pad P) z) H → va_D A ((ql_cw h ad aR adr aG adg aX adx aT kd cI cJ cB cP cQ pad P) z) → va_S A s.heap H locs → lv_has ls 6 [(0, .ref h), (1, .int x1)] → W p l e rm_X10_size s m args below meth c H locs 0 0 (ql_Qi below (dC, dI) (ql_cw h ad aR adr aG adg aX adx aT kd cI cJ cB cP cQ pad P) A args s res) (F0 m 0 ls []) := by
  have C0q := C0
  obtain ⟨hx, hb, hr, hml, hown, hts, hlocks, hK, hA⟩ := C0q
  have fl15 := hts (Cond.fieldLink RX10 15 "TestedLoops" "plans" "[LTestedLoops$Plan;") (by decide +kernel)
  intro z x1 hf H locs ls hP hD hS hl
  unfold f_X10_size_0 at hf
  refine lv_iload_n hx hb dX10_size_0 rfl (lv_at hl 1 rfl) ?_
  obtain ⟨u19, hu19, hf⟩ := ql_bd hf
  refine ql_callRSi (As := [.int x1]) (rest := []) C0 (c_X10_isProgram l dC dI N x1 u19 hu19) (va_cwS 1 hts gX10_size_X10_isProgram rfl rfl rfl qd_X10_isProgram ⟨Nat.le_of_ble_eq_true rfl, Nat.le_of_ble_eq_true rfl⟩) (hK.sub [] rfl) ql_nil hS hl.1 rfl rfl (Nat.le_of_ble_eq_true rfl) dX10_size_1 (fun H1 locs hk hS => ?_)
  have hP := ql_keep hP hk
  refine lv_if_ne (tgt := 9) hx hb dX10_size_4 (by decide) (fun c20 => ?_) (fun c20 => ?_)
  · have hf := (if_neg c20).symm.trans hf
    refine lv_aload_n hx hb dX10_size_9 rfl (lv_at hl 0 rfl) ?_
    refine va_get (D := (dC, dI)) (ci := 10) (v := .ref (ad 2)) (C := RX10) (T := TX10) (N := 13) hx hb hts iw_X10_size_X10 hown hK.1 hP 0 rfl rfl 2 (by decide) fl15 (fun _ h9 => h9) rfl dX10_size_10 ?_
    refine lv_iload_n hx hb dX10_size_13 rfl (lv_at hl 1 rfl) ?_
    have g0 := ql_in (ql_gt hf)
    have hf := ql_gx hf
    have gp21 := ql_lt g0
    refine va_aldq (f := ql_pf pad) hx hb hK.1 hP 2 3 rfl rfl g0 dX10_size_14 ?_
    refine W.eq (g2 := F0 m 15 ls [.ref (pad x1.toNatClampNeg 100)]) (by rw [ql_pfv gp21]) ?_
    refine lv_astore_n (lv' := [(2, .ref (pad x1.toNatClampNeg 100)), (0, .ref h), (1, .int x1)]) hx hb dX10_size_15 rfl hl (by decide) rfl (fun ls hl => ?_)
    refine lv_iconst (v := 0) hx hb dX10_size_16 (by decide) ?_
    refine lv_istore_n (lv' := [(3, .int 0), (2, .ref (pad x1.toNatClampNeg 100)), (0, .ref h), (1, .int x1)]) hx hb dX10_size_17 rfl hl (by decide) rfl (fun ls hl => ?_)
    refine lv_iconst (v := 0) hx hb dX10_size_18 (by decide) ?_
    refine lv_istore (lv' := [(4, .int 0), (3, .int 0), (2, .ref (pad x1.toNatClampNeg 100)), (0, .ref h), (1, .int x1)]) hx hb dX10_size_19 hl (by decide) rfl (fun ls hl => ?_)
    exact w_X10_size_21 C0 N P N _ _ _ _ (Nat.lt_of_lt_of_le gp21 (by decide)) hf _ _ _ hP hD hS (lv_sub hl [3, 2, 1, 0] rfl)
  · have hf := (if_pos c20).symm.trans hf
    refine lv_iconst (v := (-1)) hx hb dX10_size_7 (by decide) ?_
    exact ql_iret C0 hf hP hD hS dX10_size_8
set_option maxRecDepth 100000 in
theorem c_X10_size (l : Launch) (dC : Nat → ClassId) (dI : Nat → Nat → Nat) (h : Nat) (ad : Nat → Nat) (aR : Nat) (adr : Nat → Nat) (aG : Nat) (adg : Nat → Nat) (aX : Nat) (adx : Nat → Nat) (aT : Nat) (kd : Nat → Nat) (cI cJ cB cP cQ : ClassId) (pad : Nat → Nat → Nat) (N : Nat) (P : Nat → ql_St) (z : ql_V) (x1 : Int32) (res : Int32 × ql_V) (hf : f_X10_size N P z x1 = some res) : ql_Mi l yX10_size wsX10_size rm_X10_size (dC, dI) [(cI, .int), (cJ, .long), (cB, .byte), (cP, .object RX6), (cQ, .object RX5)] (ql_cw h ad aR adr aG adg aX adx aT kd cI cJ cB cP cQ pad P) [.ref h, .int x1] z res :=
  ql_start_i (by decide) rfl (Nat.le_of_ble_eq_true rfl) (fun p e s m below meth c A ls C0 hl hP hD hS => w_X10_size_0 C0 N P z x1 hf s.heap [] ls hP hD hS (lv_sub (show lv_has ls 6 [(0, .ref h), (1, .int x1)] from hl) [0, 1] rfl))
