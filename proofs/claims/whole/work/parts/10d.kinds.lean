abbrev rm_X5_init : Room := { frames := 1, cells := 0, slots := 0, locals := 12 }
set_option maxHeartbeats 4000000 in
set_option maxRecDepth 100000 in
theorem c_X5_init (l : Launch) (dC : Nat → ClassId) (dI : Nat → Nat → Nat) (h ci : Nat) : ql_I l yX5_init wsX5_init rm_X5_init (dC, dI) [] [(h, .inr (ci, []))] [.ref h] 0 0 (fun A t => va_P (dC, dI) vwCl [(h, .inr (ci, []))] t.heap ∧ va_D A [(h, .inr (ci, []))]) := by
  refine ql_start_I (by decide) rfl (Nat.le_of_ble_eq_true rfl) rfl (fun p e s m below meth c A ls C0 hin hl hP hD hS => ?_)
  have C0q := C0
  obtain ⟨hx, hb, hr, hml, hown, hts, hlocks, hK, hA⟩ := C0q
  have hl : lv_has ls 1 [(0, .ref h)] := hl
  refine lv_aload_n hx hb dX5_init_0 rfl (lv_at hl 0 rfl) ?_
  refine W.objInit hx hb hown (hts (.methodLink RX5 1 objectInit) (by decide +kernel)) (hts (.instanceMethod objectInit) (by decide +kernel)) (hts (.code objectInit ⟨#[0xb1]⟩ 1 none) (by decide +kernel)) rfl (by rw [hml]; exact hl.1) rfl dX5_init_1 (Nat.le_of_ble_eq_true rfl) (Nat.le_of_ble_eq_true rfl) ?_
  refine W.eq (g2 := F0 m 4 ls []) rfl ?_
  exact ql_Iret C0 (by decide) (by decide) (fun t ht hW => ⟨by rw [ht]; exact hP, hD⟩) hS dX5_init_4
abbrev rm_X8_init : Room := { frames := 1, cells := 0, slots := 0, locals := 12 }
set_option maxHeartbeats 4000000 in
set_option maxRecDepth 100000 in
theorem c_X8_init (l : Launch) (dC : Nat → ClassId) (dI : Nat → Nat → Nat) (h : Nat) : ql_I l yX8_init wsX8_init rm_X8_init (dC, dI) [] [(h, .inr (8, [.long 0]))] [.ref h] 0 0 (fun A t => va_P (dC, dI) vwCl [(h, .inr (8, [.long 0]))] t.heap ∧ va_D A [(h, .inr (8, [.long 0]))]) := by
  refine ql_start_I (by decide) rfl (Nat.le_of_ble_eq_true rfl) rfl (fun p e s m below meth c A ls C0 hin hl hP hD hS => ?_)
  have C0q := C0
  obtain ⟨hx, hb, hr, hml, hown, hts, hlocks, hK, hA⟩ := C0q
  have hl : lv_has ls 1 [(0, .ref h)] := hl
  refine lv_aload_n hx hb dX8_init_0 rfl (lv_at hl 0 rfl) ?_
  refine W.objInit hx hb hown (hts (.methodLink RX8 1 objectInit) (by decide +kernel)) (hts (.instanceMethod objectInit) (by decide +kernel)) (hts (.code objectInit ⟨#[0xb1]⟩ 1 none) (by decide +kernel)) rfl (by rw [hml]; exact hl.1) rfl dX8_init_1 (Nat.le_of_ble_eq_true rfl) (Nat.le_of_ble_eq_true rfl) ?_
  refine W.eq (g2 := F0 m 4 ls []) rfl ?_
  exact ql_Iret C0 (by decide) (by decide) (fun t ht hW => ⟨by rw [ht]; exact hP, hD⟩) hS dX8_init_4
abbrev rm_X0_init : Room := { frames := 2, cells := 0, slots := 0, locals := 32 }
set_option maxHeartbeats 4000000 in
set_option maxRecDepth 100000 in
theorem c_X0_init (l : Launch) (dC : Nat → ClassId) (dI : Nat → Nat → Nat) (h ci : Nat) : ql_I l yX0_init wsX0_init rm_X0_init (dC, dI) [] [(h, .inr (ci, []))] [.ref h] 0 0 (fun A t => va_P (dC, dI) vwCl [(h, .inr (ci, []))] t.heap ∧ va_D A [(h, .inr (ci, []))]) := by
  refine ql_start_I (by decide) rfl (Nat.le_of_ble_eq_true rfl) rfl (fun p e s m below meth c A ls C0 hin hl hP hD hS => ?_)
  have C0q := C0
  obtain ⟨hx, hb, hr, hml, hown, hts, hlocks, hK, hA⟩ := C0q
  have hl : lv_has ls 1 [(0, .ref h)] := hl
  refine lv_aload_n hx hb dX0_init_0 rfl (lv_at hl 0 rfl) ?_
  refine ql_callI (wr := []) (wc := [(h, .inr (ci, []))]) (rest := []) C0 (c_X5_init l dC dI h ci) (cwI 0 hts gX0_init_X5_init rfl rfl rfl (hts (.initialized RX5) (by decide +kernel)) (hts (.methodLink RX0 1 yX5_init) (by decide +kernel)) (hts (.instanceMethod yX5_init) (by decide +kernel)) rfl (by decide +kernel) ⟨Nat.le_of_ble_eq_true rfl, Nat.le_of_ble_eq_true rfl⟩) (hK.sub [] rfl) [0] [] rfl rfl rfl rfl (by decide) hP hD hS hl.1 rfl (Nat.le_of_ble_eq_true rfl) (by decide) dX0_init_1 (fun t0 H1 locs ht hvm hB hj hS => ?_)
  obtain ⟨hP1, hD1⟩ := hB
  rw [ht] at hP1
  obtain ⟨hP, hD⟩ := hj _ hP1 hD1
  exact ql_Iret C0 (by decide) (by decide) (fun t ht hW => ⟨by rw [ht]; exact hP, hD⟩) hS dX0_init_4
abbrev rm_X1_init : Room := { frames := 2, cells := 0, slots := 0, locals := 32 }
set_option maxHeartbeats 4000000 in
set_option maxRecDepth 100000 in
theorem c_X1_init (l : Launch) (dC : Nat → ClassId) (dI : Nat → Nat → Nat) (h ci : Nat) : ql_I l yX1_init wsX1_init rm_X1_init (dC, dI) [] [(h, .inr (ci, []))] [.ref h] 0 0 (fun A t => va_P (dC, dI) vwCl [(h, .inr (ci, []))] t.heap ∧ va_D A [(h, .inr (ci, []))]) := by
  refine ql_start_I (by decide) rfl (Nat.le_of_ble_eq_true rfl) rfl (fun p e s m below meth c A ls C0 hin hl hP hD hS => ?_)
  have C0q := C0
  obtain ⟨hx, hb, hr, hml, hown, hts, hlocks, hK, hA⟩ := C0q
  have hl : lv_has ls 1 [(0, .ref h)] := hl
  refine lv_aload_n hx hb dX1_init_0 rfl (lv_at hl 0 rfl) ?_
  refine ql_callI (wr := []) (wc := [(h, .inr (ci, []))]) (rest := []) C0 (c_X5_init l dC dI h ci) (cwI 0 hts gX1_init_X5_init rfl rfl rfl (hts (.initialized RX5) (by decide +kernel)) (hts (.methodLink RX1 1 yX5_init) (by decide +kernel)) (hts (.instanceMethod yX5_init) (by decide +kernel)) rfl (by decide +kernel) ⟨Nat.le_of_ble_eq_true rfl, Nat.le_of_ble_eq_true rfl⟩) (hK.sub [] rfl) [0] [] rfl rfl rfl rfl (by decide) hP hD hS hl.1 rfl (Nat.le_of_ble_eq_true rfl) (by decide) dX1_init_1 (fun t0 H1 locs ht hvm hB hj hS => ?_)
  obtain ⟨hP1, hD1⟩ := hB
  rw [ht] at hP1
  obtain ⟨hP, hD⟩ := hj _ hP1 hD1
  exact ql_Iret C0 (by decide) (by decide) (fun t ht hW => ⟨by rw [ht]; exact hP, hD⟩) hS dX1_init_4
abbrev rm_X9_init : Room := { frames := 2, cells := 0, slots := 0, locals := 32 }
set_option maxHeartbeats 4000000 in
set_option maxRecDepth 100000 in
theorem c_X9_init (l : Launch) (dC : Nat → ClassId) (dI : Nat → Nat → Nat) (h ci : Nat) : ql_I l yX9_init wsX9_init rm_X9_init (dC, dI) [] [(h, .inr (ci, []))] [.ref h] 0 0 (fun A t => va_P (dC, dI) vwCl [(h, .inr (ci, []))] t.heap ∧ va_D A [(h, .inr (ci, []))]) := by
  refine ql_start_I (by decide) rfl (Nat.le_of_ble_eq_true rfl) rfl (fun p e s m below meth c A ls C0 hin hl hP hD hS => ?_)
  have C0q := C0
  obtain ⟨hx, hb, hr, hml, hown, hts, hlocks, hK, hA⟩ := C0q
  have hl : lv_has ls 1 [(0, .ref h)] := hl
  refine lv_aload_n hx hb dX9_init_0 rfl (lv_at hl 0 rfl) ?_
  refine ql_callI (wr := []) (wc := [(h, .inr (ci, []))]) (rest := []) C0 (c_X5_init l dC dI h ci) (cwI 0 hts gX9_init_X5_init rfl rfl rfl (hts (.initialized RX5) (by decide +kernel)) (hts (.methodLink RX9 3 yX5_init) (by decide +kernel)) (hts (.instanceMethod yX5_init) (by decide +kernel)) rfl (by decide +kernel) ⟨Nat.le_of_ble_eq_true rfl, Nat.le_of_ble_eq_true rfl⟩) (hK.sub [] rfl) [0] [] rfl rfl rfl rfl (by decide) hP hD hS hl.1 rfl (Nat.le_of_ble_eq_true rfl) (by decide) dX9_init_1 (fun t0 H1 locs ht hvm hB hj hS => ?_)
  obtain ⟨hP1, hD1⟩ := hB
  rw [ht] at hP1
  obtain ⟨hP, hD⟩ := hj _ hP1 hD1
  exact ql_Iret C0 (by decide) (by decide) (fun t ht hW => ⟨by rw [ht]; exact hP, hD⟩) hS dX9_init_4
abbrev rm_X3_init : Room := { frames := 3, cells := 0, slots := 0, locals := 52 }
set_option maxHeartbeats 4000000 in
set_option maxRecDepth 100000 in
theorem c_X3_init (l : Launch) (dC : Nat → ClassId) (dI : Nat → Nat → Nat) (h ci : Nat) : ql_I l yX3_init wsX3_init rm_X3_init (dC, dI) [] [(h, .inr (ci, []))] [.ref h] 0 0 (fun A t => va_P (dC, dI) vwCl [(h, .inr (ci, []))] t.heap ∧ va_D A [(h, .inr (ci, []))]) := by
  refine ql_start_I (by decide) rfl (Nat.le_of_ble_eq_true rfl) rfl (fun p e s m below meth c A ls C0 hin hl hP hD hS => ?_)
  have C0q := C0
  obtain ⟨hx, hb, hr, hml, hown, hts, hlocks, hK, hA⟩ := C0q
  have hl : lv_has ls 1 [(0, .ref h)] := hl
  refine lv_aload_n hx hb dX3_init_0 rfl (lv_at hl 0 rfl) ?_
  refine ql_callI (wr := []) (wc := [(h, .inr (ci, []))]) (rest := []) C0 (c_X1_init l dC dI h ci) (cwI 0 hts gX3_init_X1_init rfl rfl rfl (hts (.initialized RX1) (by decide +kernel)) (hts (.methodLink RX3 1 yX1_init) (by decide +kernel)) (hts (.instanceMethod yX1_init) (by decide +kernel)) rfl (by decide +kernel) ⟨Nat.le_of_ble_eq_true rfl, Nat.le_of_ble_eq_true rfl⟩) (hK.sub [] rfl) [0] [] rfl rfl rfl rfl (by decide) hP hD hS hl.1 rfl (Nat.le_of_ble_eq_true rfl) (by decide) dX3_init_1 (fun t0 H1 locs ht hvm hB hj hS => ?_)
  obtain ⟨hP1, hD1⟩ := hB
  rw [ht] at hP1
  obtain ⟨hP, hD⟩ := hj _ hP1 hD1
  exact ql_Iret C0 (by decide) (by decide) (fun t ht hW => ⟨by rw [ht]; exact hP, hD⟩) hS dX3_init_4
