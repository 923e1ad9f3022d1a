/-! ===== TestedLoops$Plan.<init> ===== -/
abbrev rm_X6_init : Room := { frames := 5, cells := 7, slots := 1019, locals := 112 }
theorem iw_X6_init_X6 : ∀ w ∈ wsX60, w ∈ wsX6_init := fun w h => List.mem_cons_of_mem _ (List.mem_append_right _ h)
def f_X6_init (N : Nat) : Option (ql_St) := (f_X6_add N (fun _ _ => 0) 0 15 (-9)).bind fun u1 => (f_X6_settle N u1.2).bind fun u2 => some u2
set_option maxHeartbeats 8000000 in
set_option maxRecDepth 100000 in
theorem c_X6_init (l : Launch) (dC : Nat → ClassId) (dI : Nat → Nat → Nat) (h : Nat) (cI : ClassId) (N : Nat) (res : ql_St) (hf : f_X6_init N = some res) : ql_I l yX6_init wsX6_init rm_X6_init (dC, dI) [(cI, .int)] [(h, .inr (6, [.null, .null, .null, .int 0, .null, .null, .int 0, .null, .null, .int 0]))] [.ref h] 7 1019 (fun A t => ∃ ad : Nat → Nat, va_P (dC, dI) vwCl ((ql_pw h ad cI) res) t.heap ∧ va_D A ((ql_pw h ad cI) res)) := by
  refine ql_start_I (by decide) rfl (Nat.le_of_ble_eq_true rfl) rfl (fun p e s m below meth c A ls C0 hin hl hP hD hS => ?_)
  have C0q := C0
  obtain ⟨hx, hb, hr, hml, hown, hts, hlocks, hK, hA⟩ := C0q
  have hl : lv_has ls 1 [(0, .ref h)] := hl
  unfold f_X6_init at hf
  have fl9 := hts (Cond.fieldLink RX6 9 "TestedLoops$Plan" "kind" "[I") (by decide +kernel)
  have fl15 := hts (Cond.fieldLink RX6 15 "TestedLoops$Plan" "atoms" "[I") (by decide +kernel)
  have fl18 := hts (Cond.fieldLink RX6 18 "TestedLoops$Plan" "to" "[I") (by decide +kernel)
  have fl21 := hts (Cond.fieldLink RX6 21 "TestedLoops$Plan" "stepOf" "[I") (by decide +kernel)
  have fl24 := hts (Cond.fieldLink RX6 24 "TestedLoops$Plan" "actOf" "[I") (by decide +kernel)
  have fl27 := hts (Cond.fieldLink RX6 27 "TestedLoops$Plan" "table" "[I") (by decide +kernel)
  have fl30 := hts (Cond.fieldLink RX6 30 "TestedLoops$Plan" "lasts" "[I") (by decide +kernel)
  refine lv_aload_n hx hb dX6_init_0 rfl (lv_at hl 0 rfl) ?_
  refine W.objInit hx hb hown (hts (.methodLink RX6 3 objectInit) (by decide +kernel)) (hts (.instanceMethod objectInit) (by decide +kernel)) (hts (.code objectInit ⟨#[0xb1]⟩ 1 none) (by decide +kernel)) rfl (by rw [hml]; exact hl.1) rfl dX6_init_1 (Nat.le_of_ble_eq_true rfl) (Nat.le_of_ble_eq_true rfl) ?_
  refine W.eq (g2 := F0 m 4 ls []) rfl ?_
  refine lv_aload_n hx hb dX6_init_4 rfl (lv_at hl 0 rfl) ?_
  refine lv_sipush (v := 300) hx hb dX6_init_5 (by decide) ?_
  refine va_newa (atype := .int) (ty := .int) (a0 := (300, .inl (fun _ => 0))) (N' := 300) hx hb (hts (.arrayClass .int) (by decide +kernel)) rfl hK.1 hP hD hS hA (ql_cint 300) (by decide) (by decide) (by decide) (by decide) (by decide) dX6_init_8 (fun q8 cA H hK1 hP hD hS => ?_)
  obtain rfl := ql_same trivial hK1 0 1 rfl rfl
  clear hK1
  refine va_putF (D := (dC, dI)) (ci := 6) (v := .ref q8) (ty := .array .int) (C := RX6) (T := TX6) (N := 10) hx hb hts iw_X6_init_X6 tyX6 tyX6_ok nmX6 hown hK.1 hP hD hS 0 rfl rfl 0 (by decide) fl9 (fun _ h9 => h9) rfl hin rfl (by decide +kernel) rfl rfl (Nat.le_of_ble_eq_true rfl) dX6_init_10 (fun H locs hP hD hS => ?_)
  have hP : va_P (dC, dI) vwCl [(h, .inr (6, [.ref q8, .null, .null, .int 0, .null, .null, .int 0, .null, .null, .int 0])), (q8, .inl (cI, 300, .inl (fun _ => 0)))] _ := hP
  have hD : va_D A [(h, .inr (6, [.ref q8, .null, .null, .int 0, .null, .null, .int 0, .null, .null, .int 0])), (q8, .inl (cI, 300, .inl (fun _ => 0)))] := hD
  refine lv_aload_n hx hb dX6_init_13 rfl (lv_at hl 0 rfl) ?_
  refine lv_sipush (v := 300) hx hb dX6_init_14 (by decide) ?_
  refine va_newa (atype := .int) (ty := .int) (a0 := (300, .inl (fun _ => 0))) (N' := 300) hx hb (hts (.arrayClass .int) (by decide +kernel)) rfl hK.1 hP hD hS hA (ql_cint 300) (by decide) (by decide) (by decide) (by decide) (by decide) dX6_init_17 (fun q17 cA H hK1 hP hD hS => ?_)
  obtain rfl := ql_same trivial hK1 0 1 rfl rfl
  clear hK1
  refine va_putF (D := (dC, dI)) (ci := 6) (v := .ref q17) (ty := .array .int) (C := RX6) (T := TX6) (N := 10) hx hb hts iw_X6_init_X6 tyX6 tyX6_ok nmX6 hown hK.1 hP hD hS 0 rfl rfl 1 (by decide) fl15 (fun _ h9 => h9) rfl hin rfl (by decide +kernel) rfl rfl (Nat.le_of_ble_eq_true rfl) dX6_init_19 (fun H locs hP hD hS => ?_)
  have hP : va_P (dC, dI) vwCl [(h, .inr (6, [.ref q8, .ref q17, .null, .int 0, .null, .null, .int 0, .null, .null, .int 0])), (q8, .inl (cI, 300, .inl (fun _ => 0))), (q17, .inl (cI, 300, .inl (fun _ => 0)))] _ := hP
  have hD : va_D A [(h, .inr (6, [.ref q8, .ref q17, .null, .int 0, .null, .null, .int 0, .null, .null, .int 0])), (q8, .inl (cI, 300, .inl (fun _ => 0))), (q17, .inl (cI, 300, .inl (fun _ => 0)))] := hD
  refine lv_aload_n hx hb dX6_init_22 rfl (lv_at hl 0 rfl) ?_
  refine lv_sipush (v := 300) hx hb dX6_init_23 (by decide) ?_
  refine va_newa (atype := .int) (ty := .int) (a0 := (300, .inl (fun _ => 0))) (N' := 300) hx hb (hts (.arrayClass .int) (by decide +kernel)) rfl hK.1 hP hD hS hA (ql_cint 300) (by decide) (by decide) (by decide) (by decide) (by decide) dX6_init_26 (fun q26 cA H hK1 hP hD hS => ?_)
  obtain rfl := ql_same trivial hK1 0 1 rfl rfl
  clear hK1
  refine va_putF (D := (dC, dI)) (ci := 6) (v := .ref q26) (ty := .array .int) (C := RX6) (T := TX6) (N := 10) hx hb hts iw_X6_init_X6 tyX6 tyX6_ok nmX6 hown hK.1 hP hD hS 0 rfl rfl 2 (by decide) fl18 (fun _ h9 => h9) rfl hin rfl (by decide +kernel) rfl rfl (Nat.le_of_ble_eq_true rfl) dX6_init_28 (fun H locs hP hD hS => ?_)
  have hP : va_P (dC, dI) vwCl [(h, .inr (6, [.ref q8, .ref q17, .ref q26, .int 0, .null, .null, .int 0, .null, .null, .int 0])), (q8, .inl (cI, 300, .inl (fun _ => 0))), (q17, .inl (cI, 300, .inl (fun _ => 0))), (q26, .inl (cI, 300, .inl (fun _ => 0)))] _ := hP
  have hD : va_D A [(h, .inr (6, [.ref q8, .ref q17, .ref q26, .int 0, .null, .null, .int 0, .null, .null, .int 0])), (q8, .inl (cI, 300, .inl (fun _ => 0))), (q17, .inl (cI, 300, .inl (fun _ => 0))), (q26, .inl (cI, 300, .inl (fun _ => 0)))] := hD
  refine lv_aload_n hx hb dX6_init_31 rfl (lv_at hl 0 rfl) ?_
  refine lv_bipush (v := 17) hx hb dX6_init_32 (by decide) ?_
  refine va_newa (atype := .int) (ty := .int) (a0 := (17, .inl (fun _ => 0))) (N' := 17) hx hb (hts (.arrayClass .int) (by decide +kernel)) rfl hK.1 hP hD hS hA (ql_cint 17) (by decide) (by decide) (by decide) (by decide) (by decide) dX6_init_34 (fun q34 cA H hK1 hP hD hS => ?_)
  obtain rfl := ql_same trivial hK1 0 1 rfl rfl
  clear hK1
  refine va_putF (D := (dC, dI)) (ci := 6) (v := .ref q34) (ty := .array .int) (C := RX6) (T := TX6) (N := 10) hx hb hts iw_X6_init_X6 tyX6 tyX6_ok nmX6 hown hK.1 hP hD hS 0 rfl rfl 4 (by decide) fl21 (fun _ h9 => h9) rfl hin rfl (by decide +kernel) rfl rfl (Nat.le_of_ble_eq_true rfl) dX6_init_36 (fun H locs hP hD hS => ?_)
  have hP : va_P (dC, dI) vwCl [(h, .inr (6, [.ref q8, .ref q17, .ref q26, .int 0, .ref q34, .null, .int 0, .null, .null, .int 0])), (q8, .inl (cI, 300, .inl (fun _ => 0))), (q17, .inl (cI, 300, .inl (fun _ => 0))), (q26, .inl (cI, 300, .inl (fun _ => 0))), (q34, .inl (cI, 17, .inl (fun _ => 0)))] _ := hP
  have hD : va_D A [(h, .inr (6, [.ref q8, .ref q17, .ref q26, .int 0, .ref q34, .null, .int 0, .null, .null, .int 0])), (q8, .inl (cI, 300, .inl (fun _ => 0))), (q17, .inl (cI, 300, .inl (fun _ => 0))), (q26, .inl (cI, 300, .inl (fun _ => 0))), (q34, .inl (cI, 17, .inl (fun _ => 0)))] := hD
  refine lv_aload_n hx hb dX6_init_39 rfl (lv_at hl 0 rfl) ?_
  refine lv_bipush (v := 17) hx hb dX6_init_40 (by decide) ?_
  refine va_newa (atype := .int) (ty := .int) (a0 := (17, .inl (fun _ => 0))) (N' := 17) hx hb (hts (.arrayClass .int) (by decide +kernel)) rfl hK.1 hP hD hS hA (ql_cint 17) (by decide) (by decide) (by decide) (by decide) (by decide) dX6_init_42 (fun q42 cA H hK1 hP hD hS => ?_)
  obtain rfl := ql_same trivial hK1 0 1 rfl rfl
  clear hK1
  refine va_putF (D := (dC, dI)) (ci := 6) (v := .ref q42) (ty := .array .int) (C := RX6) (T := TX6) (N := 10) hx hb hts iw_X6_init_X6 tyX6 tyX6_ok nmX6 hown hK.1 hP hD hS 0 rfl rfl 5 (by decide) fl24 (fun _ h9 => h9) rfl hin rfl (by decide +kernel) rfl rfl (Nat.le_of_ble_eq_true rfl) dX6_init_44 (fun H locs hP hD hS => ?_)
  have hP : va_P (dC, dI) vwCl [(h, .inr (6, [.ref q8, .ref q17, .ref q26, .int 0, .ref q34, .ref q42, .int 0, .null, .null, .int 0])), (q8, .inl (cI, 300, .inl (fun _ => 0))), (q17, .inl (cI, 300, .inl (fun _ => 0))), (q26, .inl (cI, 300, .inl (fun _ => 0))), (q34, .inl (cI, 17, .inl (fun _ => 0))), (q42, .inl (cI, 17, .inl (fun _ => 0)))] _ := hP
  have hD : va_D A [(h, .inr (6, [.ref q8, .ref q17, .ref q26, .int 0, .ref q34, .ref q42, .int 0, .null, .null, .int 0])), (q8, .inl (cI, 300, .inl (fun _ => 0))), (q17, .inl (cI, 300, .inl (fun _ => 0))), (q26, .inl (cI, 300, .inl (fun _ => 0))), (q34, .inl (cI, 17, .inl (fun _ => 0))), (q42, .inl (cI, 17, .inl (fun _ => 0)))] := hD
  refine lv_aload_n hx hb dX6_init_47 rfl (lv_at hl 0 rfl) ?_
  refine lv_bipush (v := 68) hx hb dX6_init_48 (by decide) ?_
  refine va_newa (atype := .int) (ty := .int) (a0 := (68, .inl (fun _ => 0))) (N' := 68) hx hb (hts (.arrayClass .int) (by decide +kernel)) rfl hK.1 hP hD hS hA (ql_cint 68) (by decide) (by decide) (by decide) (by decide) (by decide) dX6_init_50 (fun q50 cA H hK1 hP hD hS => ?_)
  obtain rfl := ql_same trivial hK1 0 1 rfl rfl
  clear hK1
  refine va_putF (D := (dC, dI)) (ci := 6) (v := .ref q50) (ty := .array .int) (C := RX6) (T := TX6) (N := 10) hx hb hts iw_X6_init_X6 tyX6 tyX6_ok nmX6 hown hK.1 hP hD hS 0 rfl rfl 7 (by decide) fl27 (fun _ h9 => h9) rfl hin rfl (by decide +kernel) rfl rfl (Nat.le_of_ble_eq_true rfl) dX6_init_52 (fun H locs hP hD hS => ?_)
  have hP : va_P (dC, dI) vwCl [(h, .inr (6, [.ref q8, .ref q17, .ref q26, .int 0, .ref q34, .ref q42, .int 0, .ref q50, .null, .int 0])), (q8, .inl (cI, 300, .inl (fun _ => 0))), (q17, .inl (cI, 300, .inl (fun _ => 0))), (q26, .inl (cI, 300, .inl (fun _ => 0))), (q34, .inl (cI, 17, .inl (fun _ => 0))), (q42, .inl (cI, 17, .inl (fun _ => 0))), (q50, .inl (cI, 68, .inl (fun _ => 0)))] _ := hP
  have hD : va_D A [(h, .inr (6, [.ref q8, .ref q17, .ref q26, .int 0, .ref q34, .ref q42, .int 0, .ref q50, .null, .int 0])), (q8, .inl (cI, 300, .inl (fun _ => 0))), (q17, .inl (cI, 300, .inl (fun _ => 0))), (q26, .inl (cI, 300, .inl (fun _ => 0))), (q34, .inl (cI, 17, .inl (fun _ => 0))), (q42, .inl (cI, 17, .inl (fun _ => 0))), (q50, .inl (cI, 68, .inl (fun _ => 0)))] := hD
  refine lv_aload_n hx hb dX6_init_55 rfl (lv_at hl 0 rfl) ?_
  refine lv_bipush (v := 17) hx hb dX6_init_56 (by decide) ?_
  refine va_newa (atype := .int) (ty := .int) (a0 := (17, .inl (fun _ => 0))) (N' := 17) hx hb (hts (.arrayClass .int) (by decide +kernel)) rfl hK.1 hP hD hS hA (ql_cint 17) (by decide) (by decide) (by decide) (by decide) (by decide) dX6_init_58 (fun q58 cA H hK1 hP hD hS => ?_)
  obtain rfl := ql_same trivial hK1 0 1 rfl rfl
  clear hK1
  refine va_putF (D := (dC, dI)) (ci := 6) (v := .ref q58) (ty := .array .int) (C := RX6) (T := TX6) (N := 10) hx hb hts iw_X6_init_X6 tyX6 tyX6_ok nmX6 hown hK.1 hP hD hS 0 rfl rfl 8 (by decide) fl30 (fun _ h9 => h9) rfl hin rfl (by decide +kernel) rfl rfl (Nat.le_of_ble_eq_true rfl) dX6_init_60 (fun H locs hP hD hS => ?_)
  have hP : va_P (dC, dI) vwCl [(h, .inr (6, [.ref q8, .ref q17, .ref q26, .int 0, .ref q34, .ref q42, .int 0, .ref q50, .ref q58, .int 0])), (q8, .inl (cI, 300, .inl (fun _ => 0))), (q17, .inl (cI, 300, .inl (fun _ => 0))), (q26, .inl (cI, 300, .inl (fun _ => 0))), (q34, .inl (cI, 17, .inl (fun _ => 0))), (q42, .inl (cI, 17, .inl (fun _ => 0))), (q50, .inl (cI, 68, .inl (fun _ => 0))), (q58, .inl (cI, 17, .inl (fun _ => 0)))] _ := hP
  have hD : va_D A [(h, .inr (6, [.ref q8, .ref q17, .ref q26, .int 0, .ref q34, .ref q42, .int 0, .ref q50, .ref q58, .int 0])), (q8, .inl (cI, 300, .inl (fun _ => 0))), (q17, .inl (cI, 300, .inl (fun _ => 0))), (q26, .inl (cI, 300, .inl (fun _ => 0))), (q34, .inl (cI, 17, .inl (fun _ => 0))), (q42, .inl (cI, 17, .inl (fun _ => 0))), (q50, .inl (cI, 68, .inl (fun _ => 0))), (q58, .inl (cI, 17, .inl (fun _ => 0)))] := hD
  refine lv_aload_n hx hb dX6_init_63 rfl (lv_at hl 0 rfl) ?_
  refine lv_iconst (v := 0) hx hb dX6_init_64 (by decide) ?_
  refine lv_bipush (v := 15) hx hb dX6_init_65 (by decide) ?_
  refine lv_bipush (v := (-9)) hx hb dX6_init_67 (by decide) ?_
  obtain ⟨ad, had⟩ : ∃ ad : Nat → Nat, ad = (fun k => cond (Nat.beq k 0) q8 (cond (Nat.beq k 1) q17 (cond (Nat.beq k 2) q26 (cond (Nat.beq k 4) q34 (cond (Nat.beq k 5) q42 (cond (Nat.beq k 7) q50 (cond (Nat.beq k 8) q58 (0)))))))) := ⟨_, rfl⟩
  have hP : va_P (dC, dI) vwCl ((ql_pw h ad cI) (fun _ _ => 0)) H := by rw [had]; exact hP
  have hD : va_D A ((ql_pw h ad cI) (fun _ _ => 0)) := by rw [had]; exact hD
  obtain ⟨u1, hu1, hf⟩ := ql_bd hf
  refine ql_callViC (As := [.int 0, .int 15, .int (-9)]) (rest := []) C0 (c_X6_add l dC dI h ad cI N (fun _ _ => 0) 0 15 (-9) u1 hu1) (cwV 3 hts gX6_init_X6_add rfl rfl rfl qv_X6_add ⟨Nat.le_of_ble_eq_true rfl, Nat.le_of_ble_eq_true rfl⟩) (va_recv hK.1 hP (ci := 6) (q0 := 0) rfl rfl) hP hD hS (by decide) hl.1 rfl rfl (Nat.le_of_ble_eq_true rfl) dX6_init_69 (fun H locs hP hD hS => ?_)
  refine lv_pop hx hb dX6_init_72 rfl ?_
  refine lv_aload_n hx hb dX6_init_73 rfl (lv_at hl 0 rfl) ?_
  obtain ⟨u2, hu2, hf⟩ := ql_bd hf
  refine ql_callVvC (As := []) (rest := []) C0 (c_X6_settle l dC dI h ad cI N u1.2 u2 hu2) (cwV 0 hts gX6_init_X6_settle rfl rfl rfl qv_X6_settle ⟨Nat.le_of_ble_eq_true rfl, Nat.le_of_ble_eq_true rfl⟩) (va_recv hK.1 hP (ci := 6) (q0 := 0) rfl rfl) hP hD hS (by decide) hl.1 rfl rfl (Nat.le_of_ble_eq_true rfl) dX6_init_74 (fun H locs hP hD hS => ?_)
  obtain rfl := Option.some.inj hf
  exact ql_Iret C0 (by decide) (by decide) (fun t ht hW => ⟨ad, by rw [ht]; exact hP, hD⟩) hS dX6_init_77
/-! ===== TestedLoops$Pairs.<init> ===== -/
abbrev rm_X4_init : Room := { frames := 1, cells := 5, slots := 1620, locals := 12 }
theorem iw_X4_init_X4 : ∀ w ∈ wsX40, w ∈ wsX4_init := fun w h => List.mem_cons_of_mem _ (List.mem_append_right _ h)
def f_X4_init (N : Nat) : Option (ql_Z) := some ql_z0
set_option maxHeartbeats 8000000 in
set_option maxRecDepth 100000 in
theorem c_X4_init (l : Launch) (dC : Nat → ClassId) (dI : Nat → Nat → Nat) (h : Nat) (cI cJ : ClassId) (N : Nat) (res : ql_Z) (hf : f_X4_init N = some res) : ql_I l yX4_init wsX4_init rm_X4_init (dC, dI) [(cI, .int), (cJ, .long)] [(h, .inr (4, [.null, .null, .null, .null, .null, .int 0, .int 0, .long 0]))] [.ref h] 5 1620 (fun A t => ∃ ad : Nat → Nat, va_P (dC, dI) vwCl ((ql_xc h ad cI cJ) res) t.heap ∧ va_D A ((ql_xc h ad cI cJ) res)) := by
  refine ql_start_I (by decide) rfl (Nat.le_of_ble_eq_true rfl) rfl (fun p e s m below meth c A ls C0 hin hl hP hD hS => ?_)
  have C0q := C0
  obtain ⟨hx, hb, hr, hml, hown, hts, hlocks, hK, hA⟩ := C0q
  have hl : lv_has ls 1 [(0, .ref h)] := hl
  unfold f_X4_init at hf
  have fl11 := hts (Cond.fieldLink RX4 11 "TestedLoops$Pairs" "seen" "[I") (by decide +kernel)
  have fl15 := hts (Cond.fieldLink RX4 15 "TestedLoops$Pairs" "ones" "[I") (by decide +kernel)
  have fl18 := hts (Cond.fieldLink RX4 18 "TestedLoops$Pairs" "others" "[I") (by decide +kernel)
  have fl21 := hts (Cond.fieldLink RX4 21 "TestedLoops$Pairs" "acts" "[I") (by decide +kernel)
  have fl24 := hts (Cond.fieldLink RX4 24 "TestedLoops$Pairs" "rows" "[J") (by decide +kernel)
  refine lv_aload_n hx hb dX4_init_0 rfl (lv_at hl 0 rfl) ?_
  refine W.objInit hx hb hown (hts (.methodLink RX4 3 objectInit) (by decide +kernel)) (hts (.instanceMethod objectInit) (by decide +kernel)) (hts (.code objectInit ⟨#[0xb1]⟩ 1 none) (by decide +kernel)) rfl (by rw [hml]; exact hl.1) rfl dX4_init_1 (Nat.le_of_ble_eq_true rfl) (Nat.le_of_ble_eq_true rfl) ?_
  refine W.eq (g2 := F0 m 4 ls []) rfl ?_
  refine lv_aload_n hx hb dX4_init_4 rfl (lv_at hl 0 rfl) ?_
  refine lv_sipush (v := 324) hx hb dX4_init_5 (by decide) ?_
  refine va_newa (atype := .int) (ty := .int) (a0 := (324, .inl (fun _ => 0))) (N' := 324) hx hb (hts (.arrayClass .int) (by decide +kernel)) rfl hK.1 hP hD hS hA (ql_cint 324) (by decide) (by decide) (by decide) (by decide) (by decide) dX4_init_8 (fun q8 cA H hK1 hP hD hS => ?_)
  obtain rfl := ql_same trivial hK1 0 2 rfl rfl
  clear hK1
  refine va_putF (D := (dC, dI)) (ci := 4) (v := .ref q8) (ty := .array .int) (C := RX4) (T := TX4) (N := 8) hx hb hts iw_X4_init_X4 tyX4 tyX4_ok nmX4 hown hK.1 hP hD hS 0 rfl rfl 0 (by decide) fl11 (fun _ h9 => h9) rfl hin rfl (by decide +kernel) rfl rfl (Nat.le_of_ble_eq_true rfl) dX4_init_10 (fun H locs hP hD hS => ?_)
  have hP : va_P (dC, dI) vwCl [(h, .inr (4, [.ref q8, .null, .null, .null, .null, .int 0, .int 0, .long 0])), (q8, .inl (cI, 324, .inl (fun _ => 0)))] _ := hP
  have hD : va_D A [(h, .inr (4, [.ref q8, .null, .null, .null, .null, .int 0, .int 0, .long 0])), (q8, .inl (cI, 324, .inl (fun _ => 0)))] := hD
  refine lv_aload_n hx hb dX4_init_13 rfl (lv_at hl 0 rfl) ?_
  refine lv_sipush (v := 324) hx hb dX4_init_14 (by decide) ?_
  refine va_newa (atype := .int) (ty := .int) (a0 := (324, .inl (fun _ => 0))) (N' := 324) hx hb (hts (.arrayClass .int) (by decide +kernel)) rfl hK.1 hP hD hS hA (ql_cint 324) (by decide) (by decide) (by decide) (by decide) (by decide) dX4_init_17 (fun q17 cA H hK1 hP hD hS => ?_)
  obtain rfl := ql_same trivial hK1 0 2 rfl rfl
  clear hK1
  refine va_putF (D := (dC, dI)) (ci := 4) (v := .ref q17) (ty := .array .int) (C := RX4) (T := TX4) (N := 8) hx hb hts iw_X4_init_X4 tyX4 tyX4_ok nmX4 hown hK.1 hP hD hS 0 rfl rfl 1 (by decide) fl15 (fun _ h9 => h9) rfl hin rfl (by decide +kernel) rfl rfl (Nat.le_of_ble_eq_true rfl) dX4_init_19 (fun H locs hP hD hS => ?_)
  have hP : va_P (dC, dI) vwCl [(h, .inr (4, [.ref q8, .ref q17, .null, .null, .null, .int 0, .int 0, .long 0])), (q8, .inl (cI, 324, .inl (fun _ => 0))), (q17, .inl (cI, 324, .inl (fun _ => 0)))] _ := hP
  have hD : va_D A [(h, .inr (4, [.ref q8, .ref q17, .null, .null, .null, .int 0, .int 0, .long 0])), (q8, .inl (cI, 324, .inl (fun _ => 0))), (q17, .inl (cI, 324, .inl (fun _ => 0)))] := hD
  refine lv_aload_n hx hb dX4_init_22 rfl (lv_at hl 0 rfl) ?_
  refine lv_sipush (v := 324) hx hb dX4_init_23 (by decide) ?_
  refine va_newa (atype := .int) (ty := .int) (a0 := (324, .inl (fun _ => 0))) (N' := 324) hx hb (hts (.arrayClass .int) (by decide +kernel)) rfl hK.1 hP hD hS hA (ql_cint 324) (by decide) (by decide) (by decide) (by decide) (by decide) dX4_init_26 (fun q26 cA H hK1 hP hD hS => ?_)
  obtain rfl := ql_same trivial hK1 0 2 rfl rfl
  clear hK1
  refine va_putF (D := (dC, dI)) (ci := 4) (v := .ref q26) (ty := .array .int) (C := RX4) (T := TX4) (N := 8) hx hb hts iw_X4_init_X4 tyX4 tyX4_ok nmX4 hown hK.1 hP hD hS 0 rfl rfl 2 (by decide) fl18 (fun _ h9 => h9) rfl hin rfl (by decide +kernel) rfl rfl (Nat.le_of_ble_eq_true rfl) dX4_init_28 (fun H locs hP hD hS => ?_)
  have hP : va_P (dC, dI) vwCl [(h, .inr (4, [.ref q8, .ref q17, .ref q26, .null, .null, .int 0, .int 0, .long 0])), (q8, .inl (cI, 324, .inl (fun _ => 0))), (q17, .inl (cI, 324, .inl (fun _ => 0))), (q26, .inl (cI, 324, .inl (fun _ => 0)))] _ := hP
  have hD : va_D A [(h, .inr (4, [.ref q8, .ref q17, .ref q26, .null, .null, .int 0, .int 0, .long 0])), (q8, .inl (cI, 324, .inl (fun _ => 0))), (q17, .inl (cI, 324, .inl (fun _ => 0))), (q26, .inl (cI, 324, .inl (fun _ => 0)))] := hD
  refine lv_aload_n hx hb dX4_init_31 rfl (lv_at hl 0 rfl) ?_
  refine lv_sipush (v := 324) hx hb dX4_init_32 (by decide) ?_
  refine va_newa (atype := .int) (ty := .int) (a0 := (324, .inl (fun _ => 0))) (N' := 324) hx hb (hts (.arrayClass .int) (by decide +kernel)) rfl hK.1 hP hD hS hA (ql_cint 324) (by decide) (by decide) (by decide) (by decide) (by decide) dX4_init_35 (fun q35 cA H hK1 hP hD hS => ?_)
  obtain rfl := ql_same trivial hK1 0 2 rfl rfl
  clear hK1
  refine va_putF (D := (dC, dI)) (ci := 4) (v := .ref q35) (ty := .array .int) (C := RX4) (T := TX4) (N := 8) hx hb hts iw_X4_init_X4 tyX4 tyX4_ok nmX4 hown hK.1 hP hD hS 0 rfl rfl 3 (by decide) fl21 (fun _ h9 => h9) rfl hin rfl (by decide +kernel) rfl rfl (Nat.le_of_ble_eq_true rfl) dX4_init_37 (fun H locs hP hD hS => ?_)
  have hP : va_P (dC, dI) vwCl [(h, .inr (4, [.ref q8, .ref q17, .ref q26, .ref q35, .null, .int 0, .int 0, .long 0])), (q8, .inl (cI, 324, .inl (fun _ => 0))), (q17, .inl (cI, 324, .inl (fun _ => 0))), (q26, .inl (cI, 324, .inl (fun _ => 0))), (q35, .inl (cI, 324, .inl (fun _ => 0)))] _ := hP
  have hD : va_D A [(h, .inr (4, [.ref q8, .ref q17, .ref q26, .ref q35, .null, .int 0, .int 0, .long 0])), (q8, .inl (cI, 324, .inl (fun _ => 0))), (q17, .inl (cI, 324, .inl (fun _ => 0))), (q26, .inl (cI, 324, .inl (fun _ => 0))), (q35, .inl (cI, 324, .inl (fun _ => 0)))] := hD
  refine lv_aload_n hx hb dX4_init_40 rfl (lv_at hl 0 rfl) ?_
  refine lv_sipush (v := 324) hx hb dX4_init_41 (by decide) ?_
  refine va_newa (atype := .long) (ty := .long) (a0 := (324, .inr (.inl (fun _ => 0)))) (N' := 324) hx hb (hts (.arrayClass .long) (by decide +kernel)) rfl hK.1 hP hD hS hA (ql_clong 324) (by decide) (by decide) (by decide) (by decide) (by decide) dX4_init_44 (fun q44 cA H hK1 hP hD hS => ?_)
  obtain rfl := ql_same trivial hK1 1 2 rfl rfl
  clear hK1
  refine va_putF (D := (dC, dI)) (ci := 4) (v := .ref q44) (ty := .array .long) (C := RX4) (T := TX4) (N := 8) hx hb hts iw_X4_init_X4 tyX4 tyX4_ok nmX4 hown hK.1 hP hD hS 0 rfl rfl 4 (by decide) fl24 (fun _ h9 => h9) rfl hin rfl (by decide +kernel) rfl rfl (Nat.le_of_ble_eq_true rfl) dX4_init_46 (fun H locs hP hD hS => ?_)
  have hP : va_P (dC, dI) vwCl [(h, .inr (4, [.ref q8, .ref q17, .ref q26, .ref q35, .ref q44, .int 0, .int 0, .long 0])), (q8, .inl (cI, 324, .inl (fun _ => 0))), (q17, .inl (cI, 324, .inl (fun _ => 0))), (q26, .inl (cI, 324, .inl (fun _ => 0))), (q35, .inl (cI, 324, .inl (fun _ => 0))), (q44, .inl (cJ, 324, .inr (.inl (fun _ => 0))))] _ := hP
  have hD : va_D A [(h, .inr (4, [.ref q8, .ref q17, .ref q26, .ref q35, .ref q44, .int 0, .int 0, .long 0])), (q8, .inl (cI, 324, .inl (fun _ => 0))), (q17, .inl (cI, 324, .inl (fun _ => 0))), (q26, .inl (cI, 324, .inl (fun _ => 0))), (q35, .inl (cI, 324, .inl (fun _ => 0))), (q44, .inl (cJ, 324, .inr (.inl (fun _ => 0))))] := hD
  obtain ⟨ad, had⟩ : ∃ ad : Nat → Nat, ad = (fun k => cond (Nat.beq k 0) q8 (cond (Nat.beq k 1) q17 (cond (Nat.beq k 2) q26 (cond (Nat.beq k 3) q35 (cond (Nat.beq k 4) q44 (0)))))) := ⟨_, rfl⟩
  have hP : va_P (dC, dI) vwCl ((ql_xc h ad cI cJ) ql_z0) H := by rw [had]; exact hP
  have hD : va_D A ((ql_xc h ad cI cJ) ql_z0) := by rw [had]; exact hD
  obtain rfl := Option.some.inj hf
  exact ql_Iret C0 (by decide) (by decide) (fun t ht hW => ⟨ad, by rw [ht]; exact hP, hD⟩) hS dX4_init_49
/-! ===== TestedLoops$Groups.<init> ===== -/
abbrev rm_X2_init : Room := { frames := 1, cells := 2, slots := 34, locals := 12 }
theorem iw_X2_init_X2 : ∀ w ∈ wsX20, w ∈ wsX2_init := fun w h => List.mem_cons_of_mem _ (List.mem_append_right _ h)
def f_X2_init (N : Nat) : Option (ql_St) := some (fun _ _ => 0)
set_option maxHeartbeats 8000000 in
set_option maxRecDepth 100000 in
theorem c_X2_init (l : Launch) (dC : Nat → ClassId) (dI : Nat → Nat → Nat) (h : Nat) (cI : ClassId) (N : Nat) (res : ql_St) (hf : f_X2_init N = some res) : ql_I l yX2_init wsX2_init rm_X2_init (dC, dI) [(cI, .int)] [(h, .inr (2, [.null, .null]))] [.ref h] 2 34 (fun A t => ∃ ad : Nat → Nat, va_P (dC, dI) vwCl ((ql_gc h ad cI) res) t.heap ∧ va_D A ((ql_gc h ad cI) res)) := by
  refine ql_start_I (by decide) rfl (Nat.le_of_ble_eq_true rfl) rfl (fun p e s m below meth c A ls C0 hin hl hP hD hS => ?_)
  have C0q := C0
  obtain ⟨hx, hb, hr, hml, hown, hts, hlocks, hK, hA⟩ := C0q
  have hl : lv_has ls 1 [(0, .ref h)] := hl
  unfold f_X2_init at hf
  have fl9 := hts (Cond.fieldLink RX2 9 "TestedLoops$Groups" "first" "[I") (by decide +kernel)
  have fl15 := hts (Cond.fieldLink RX2 15 "TestedLoops$Groups" "finer" "[I") (by decide +kernel)
  refine lv_aload_n hx hb dX2_init_0 rfl (lv_at hl 0 rfl) ?_
  refine W.objInit hx hb hown (hts (.methodLink RX2 3 objectInit) (by decide +kernel)) (hts (.instanceMethod objectInit) (by decide +kernel)) (hts (.code objectInit ⟨#[0xb1]⟩ 1 none) (by decide +kernel)) rfl (by rw [hml]; exact hl.1) rfl dX2_init_1 (Nat.le_of_ble_eq_true rfl) (Nat.le_of_ble_eq_true rfl) ?_
  refine W.eq (g2 := F0 m 4 ls []) rfl ?_
  refine lv_aload_n hx hb dX2_init_4 rfl (lv_at hl 0 rfl) ?_
  refine lv_bipush (v := 17) hx hb dX2_init_5 (by decide) ?_
  refine va_newa (atype := .int) (ty := .int) (a0 := (17, .inl (fun _ => 0))) (N' := 17) hx hb (hts (.arrayClass .int) (by decide +kernel)) rfl hK.1 hP hD hS hA (ql_cint 17) (by decide) (by decide) (by decide) (by decide) (by decide) dX2_init_7 (fun q7 cA H hK1 hP hD hS => ?_)
  obtain rfl := ql_same trivial hK1 0 1 rfl rfl
  clear hK1
  refine va_putF (D := (dC, dI)) (ci := 2) (v := .ref q7) (ty := .array .int) (C := RX2) (T := TX2) (N := 2) hx hb hts iw_X2_init_X2 tyX2 tyX2_ok nmX2 hown hK.1 hP hD hS 0 rfl rfl 0 (by decide) fl9 (fun _ h9 => h9) rfl hin rfl (by decide +kernel) rfl rfl (Nat.le_of_ble_eq_true rfl) dX2_init_9 (fun H locs hP hD hS => ?_)
  have hP : va_P (dC, dI) vwCl [(h, .inr (2, [.ref q7, .null])), (q7, .inl (cI, 17, .inl (fun _ => 0)))] _ := hP
  have hD : va_D A [(h, .inr (2, [.ref q7, .null])), (q7, .inl (cI, 17, .inl (fun _ => 0)))] := hD
  refine lv_aload_n hx hb dX2_init_12 rfl (lv_at hl 0 rfl) ?_
  refine lv_bipush (v := 17) hx hb dX2_init_13 (by decide) ?_
  refine va_newa (atype := .int) (ty := .int) (a0 := (17, .inl (fun _ => 0))) (N' := 17) hx hb (hts (.arrayClass .int) (by decide +kernel)) rfl hK.1 hP hD hS hA (ql_cint 17) (by decide) (by decide) (by decide) (by decide) (by decide) dX2_init_15 (fun q15 cA H hK1 hP hD hS => ?_)
  obtain rfl := ql_same trivial hK1 0 1 rfl rfl
  clear hK1
  refine va_putF (D := (dC, dI)) (ci := 2) (v := .ref q15) (ty := .array .int) (C := RX2) (T := TX2) (N := 2) hx hb hts iw_X2_init_X2 tyX2 tyX2_ok nmX2 hown hK.1 hP hD hS 0 rfl rfl 1 (by decide) fl15 (fun _ h9 => h9) rfl hin rfl (by decide +kernel) rfl rfl (Nat.le_of_ble_eq_true rfl) dX2_init_17 (fun H locs hP hD hS => ?_)
  have hP : va_P (dC, dI) vwCl [(h, .inr (2, [.ref q7, .ref q15])), (q7, .inl (cI, 17, .inl (fun _ => 0))), (q15, .inl (cI, 17, .inl (fun _ => 0)))] _ := hP
  have hD : va_D A [(h, .inr (2, [.ref q7, .ref q15])), (q7, .inl (cI, 17, .inl (fun _ => 0))), (q15, .inl (cI, 17, .inl (fun _ => 0)))] := hD
  obtain ⟨ad, had⟩ : ∃ ad : Nat → Nat, ad = (fun k => cond (Nat.beq k 0) q7 (cond (Nat.beq k 1) q15 (0))) := ⟨_, rfl⟩
  have hP : va_P (dC, dI) vwCl ((ql_gc h ad cI) (fun _ _ => 0)) H := by rw [had]; exact hP
  have hD : va_D A ((ql_gc h ad cI) (fun _ _ => 0)) := by rw [had]; exact hD
  obtain rfl := Option.some.inj hf
  exact ql_Iret C0 (by decide) (by decide) (fun t ht hW => ⟨ad, by rw [ht]; exact hP, hD⟩) hS dX2_init_20
/-! ===== TestedLoops$Reader.<init> ===== -/
abbrev rm_X7_init : Room := { frames := 6, cells := 10, slots := 1631, locals := 132 }
theorem iw_X7_init_X7 : ∀ w ∈ wsX70, w ∈ wsX7_init := fun w h => List.mem_cons_of_mem _ (List.mem_append_left _ (List.mem_append_right _ h))
theorem iw_X7_init_X6 : ∀ w ∈ wsX60, w ∈ wsX7_init := fun w h => List.mem_cons_of_mem _ (List.mem_append_right _ h)
set_option maxHeartbeats 8000000 in
set_option maxRecDepth 100000 in
theorem c_X7_init (l : Launch) (dC : Nat → ClassId) (dI : Nat → Nat → Nat) (h : Nat) (cI : ClassId) (N : Nat) (r6 : ql_St) (h6 : f_X6_init N = some r6) : ql_I l yX7_init wsX7_init rm_X7_init (dC, dI) [(cI, .int)] [(h, .inr (7, [.null, .null, .int 0, .int 0, .null]))] [.ref h] 10 1631 (fun A t => ∃ (ad : Nat → Nat) (hp : Nat) (pad : Nat → Nat), va_P (dC, dI) vwCl (ql_rw h ad hp pad cI ((fun _ _ => 0), r6)) t.heap ∧ va_D A (ql_rw h ad hp pad cI ((fun _ _ => 0), r6))) := by
  refine ql_start_I (by decide) rfl (Nat.le_of_ble_eq_true rfl) rfl (fun p e s m below meth c A ls C0 hin hl hP hD hS => ?_)
  have C0q := C0
  obtain ⟨hx, hb, hr, hml, hown, hts, hlocks, hK, hA⟩ := C0q
  have hl : lv_has ls 1 [(0, .ref h)] := hl
  have fl9 := hts (Cond.fieldLink RX7 9 "TestedLoops$Reader" "tokens" "[I") (by decide +kernel)
  have fl15 := hts (Cond.fieldLink RX7 15 "TestedLoops$Reader" "begins" "[I") (by decide +kernel)
  have fl21 := hts (Cond.fieldLink RX7 21 "TestedLoops$Reader" "plan" "LTestedLoops$Plan;") (by decide +kernel)
  refine lv_aload_n hx hb dX7_init_0 rfl (lv_at hl 0 rfl) ?_
  refine W.objInit hx hb hown (hts (.methodLink RX7 3 objectInit) (by decide +kernel)) (hts (.instanceMethod objectInit) (by decide +kernel)) (hts (.code objectInit ⟨#[0xb1]⟩ 1 none) (by decide +kernel)) rfl (by rw [hml]; exact hl.1) rfl dX7_init_1 (Nat.le_of_ble_eq_true rfl) (Nat.le_of_ble_eq_true rfl) ?_
  refine W.eq (g2 := F0 m 4 ls []) rfl ?_
  refine lv_aload_n hx hb dX7_init_4 rfl (lv_at hl 0 rfl) ?_
  refine lv_sipush (v := 301) hx hb dX7_init_5 (by decide) ?_
  refine va_newa (atype := .int) (ty := .int) (a0 := (301, .inl (fun _ => 0))) (N' := 301) hx hb (hts (.arrayClass .int) (by decide +kernel)) rfl hK.1 hP hD hS hA (ql_cint 301) (by decide) (by decide) (by decide) (by decide) (by decide) dX7_init_8 (fun q8 cA H hK1 hP hD hS => ?_)
  obtain rfl := ql_same trivial hK1 0 1 rfl rfl
  clear hK1
  refine va_putF (D := (dC, dI)) (ci := 7) (v := .ref q8) (ty := .array .int) (C := RX7) (T := TX7) (N := 5) hx hb hts iw_X7_init_X7 tyX7 tyX7_ok nmX7 hown hK.1 hP hD hS 0 rfl rfl 0 (by decide) fl9 (fun _ h9 => h9) rfl hin rfl (by decide +kernel) rfl rfl (Nat.le_of_ble_eq_true rfl) dX7_init_10 (fun H locs hP hD hS => ?_)
  have hP : va_P (dC, dI) vwCl [(h, .inr (7, [.ref q8, .null, .int 0, .int 0, .null])), (q8, .inl (cI, 301, .inl (fun _ => 0)))] _ := hP
  have hD : va_D A [(h, .inr (7, [.ref q8, .null, .int 0, .int 0, .null])), (q8, .inl (cI, 301, .inl (fun _ => 0)))] := hD
  refine lv_aload_n hx hb dX7_init_13 rfl (lv_at hl 0 rfl) ?_
  refine lv_sipush (v := 301) hx hb dX7_init_14 (by decide) ?_
  refine va_newa (atype := .int) (ty := .int) (a0 := (301, .inl (fun _ => 0))) (N' := 301) hx hb (hts (.arrayClass .int) (by decide +kernel)) rfl hK.1 hP hD hS hA (ql_cint 301) (by decide) (by decide) (by decide) (by decide) (by decide) dX7_init_17 (fun q17 cA H hK1 hP hD hS => ?_)
  obtain rfl := ql_same trivial hK1 0 1 rfl rfl
  clear hK1
  refine va_putF (D := (dC, dI)) (ci := 7) (v := .ref q17) (ty := .array .int) (C := RX7) (T := TX7) (N := 5) hx hb hts iw_X7_init_X7 tyX7 tyX7_ok nmX7 hown hK.1 hP hD hS 0 rfl rfl 1 (by decide) fl15 (fun _ h9 => h9) rfl hin rfl (by decide +kernel) rfl rfl (Nat.le_of_ble_eq_true rfl) dX7_init_19 (fun H locs hP hD hS => ?_)
  have hP : va_P (dC, dI) vwCl [(h, .inr (7, [.ref q8, .ref q17, .int 0, .int 0, .null])), (q8, .inl (cI, 301, .inl (fun _ => 0))), (q17, .inl (cI, 301, .inl (fun _ => 0)))] _ := hP
  have hD : va_D A [(h, .inr (7, [.ref q8, .ref q17, .int 0, .int 0, .null])), (q8, .inl (cI, 301, .inl (fun _ => 0))), (q17, .inl (cI, 301, .inl (fun _ => 0)))] := hD
  refine lv_aload_n hx hb dX7_init_22 rfl (lv_at hl 0 rfl) ?_
  refine va_new (ci := 6) (fs := [.null, .null, .null, .int 0, .null, .null, .int 0, .null, .null, .int 0]) (C := RX6) (T := TX6) (N := 10) hx hb hts iw_X7_init_X6 tyX6 tyX6_ok hown (hts (.classLink RX7 18 RX6) (by decide +kernel)) (hts (.instantiable RX6 10) (by decide +kernel)) (hts (.initialized RX6) (by decide +kernel)) hK.1 hP hD hS hA rfl (fun j hj => by rcases (show j = 0 ∨ j = 1 ∨ j = 2 ∨ j = 3 ∨ j = 4 ∨ j = 5 ∨ j = 6 ∨ j = 7 ∨ j = 8 ∨ j = 9 by omega) with rfl | rfl | rfl | rfl | rfl | rfl | rfl | rfl | rfl | rfl <;> rfl) (by decide) (by decide) dX7_init_23 (fun q23 H hP hD hS => ?_)
  have hP : va_P (dC, dI) vwCl [(h, .inr (7, [.ref q8, .ref q17, .int 0, .int 0, .null])), (q8, .inl (cI, 301, .inl (fun _ => 0))), (q17, .inl (cI, 301, .inl (fun _ => 0))), (q23, .inr (6, [.null, .null, .null, .int 0, .null, .null, .int 0, .null, .null, .int 0]))] H := hP
  have hD : va_D A [(h, .inr (7, [.ref q8, .ref q17, .int 0, .int 0, .null])), (q8, .inl (cI, 301, .inl (fun _ => 0))), (q17, .inl (cI, 301, .inl (fun _ => 0))), (q23, .inr (6, [.null, .null, .null, .int 0, .null, .null, .int 0, .null, .null, .int 0]))] := hD
  refine lv_dup hx hb dX7_init_26 rfl ?_
  refine ql_callI (wc := [(h, .inr (7, [.ref q8, .ref q17, .int 0, .int 0, .null])), (q8, .inl (cI, 301, .inl (fun _ => 0))), (q17, .inl (cI, 301, .inl (fun _ => 0))), (q23, .inr (6, [.null, .null, .null, .int 0, .null, .null, .int 0, .null, .null, .int 0]))]) (wr := [(h, .inr (7, [.ref q8, .ref q17, .int 0, .int 0, .null])), (q8, .inl (cI, 301, .inl (fun _ => 0))), (q17, .inl (cI, 301, .inl (fun _ => 0)))]) (rest := [.ref q23, .ref h]) C0 (c_X6_init l dC dI q23 cI N r6 h6) (cwI 0 hts gX7_init_X6_init rfl rfl rfl (hts (.initialized RX6) (by decide +kernel)) (hts (.methodLink RX7 20 yX6_init) (by decide +kernel)) (hts (.instanceMethod yX6_init) (by decide +kernel)) rfl (by decide +kernel) ⟨Nat.le_of_ble_eq_true rfl, Nat.le_of_ble_eq_true rfl⟩) (hK.sub [0] rfl) [3] [0, 1, 2] rfl rfl rfl rfl (by decide) hP hD hS hl.1 rfl (Nat.le_of_ble_eq_true rfl) (by decide) dX7_init_27 (fun t0 H locs ht hvm hB hj hS => ?_)
  obtain ⟨pad, hP1, hD1⟩ := hB
  rw [ht] at hP1
  obtain ⟨hP, hD⟩ := hj _ hP1 hD1
  have hP : va_P (dC, dI) vwCl ([(h, .inr (7, [.ref q8, .ref q17, .int 0, .int 0, .null])), (q8, .inl (cI, 301, .inl (fun _ => 0))), (q17, .inl (cI, 301, .inl (fun _ => 0)))] ++ ql_pw q23 pad cI r6) H := hP
  have hD : va_D A ([(h, .inr (7, [.ref q8, .ref q17, .int 0, .int 0, .null])), (q8, .inl (cI, 301, .inl (fun _ => 0))), (q17, .inl (cI, 301, .inl (fun _ => 0)))] ++ ql_pw q23 pad cI r6) := hD
  refine va_put (D := (dC, dI)) (ci := 7) (v := .ref q23) (ty := .object "TestedLoops$Plan") (C := RX7) (T := TX7) (N := 5) hx hb hts iw_X7_init_X7 tyX7 tyX7_ok nmX7 hown hK.1 hP hD hS 0 rfl rfl 4 (by decide) fl21 (fun _ h9 => h9) rfl (by decide +kernel) rfl rfl (Nat.le_of_ble_eq_true rfl) dX7_init_30 (fun H locs hP hD hS => ?_)
  have hP : va_P (dC, dI) vwCl ([(h, .inr (7, [.ref q8, .ref q17, .int 0, .int 0, .ref q23])), (q8, .inl (cI, 301, .inl (fun _ => 0))), (q17, .inl (cI, 301, .inl (fun _ => 0)))] ++ ql_pw q23 pad cI r6) H := hP
  have hD : va_D A ([(h, .inr (7, [.ref q8, .ref q17, .int 0, .int 0, .ref q23])), (q8, .inl (cI, 301, .inl (fun _ => 0))), (q17, .inl (cI, 301, .inl (fun _ => 0)))] ++ ql_pw q23 pad cI r6) := hD
  obtain ⟨ad, had⟩ : ∃ ad : Nat → Nat, ad = (fun k => cond (Nat.beq k 0) q8 (cond (Nat.beq k 1) q17 (0))) := ⟨_, rfl⟩
  have hP : va_P (dC, dI) vwCl (ql_rw h ad q23 pad cI ((fun _ _ => 0), r6)) H := by rw [had]; exact hP
  have hD : va_D A (ql_rw h ad q23 pad cI ((fun _ _ => 0), r6)) := by rw [had]; exact hD
  exact ql_Iret C0 (by decide) (by decide) (fun t ht hW => ⟨ad, q23, pad, by rw [ht]; exact hP, hD⟩) hS dX7_init_33
