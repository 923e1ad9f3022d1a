/-! ===== TestedLoops$Reader.readWant(I)Z ===== -/
abbrev rm_X7_readWant : Room := { frames := 32, cells := 0, slots := 0, locals := 726 }
theorem iw_X7_readWant_X7 : ∀ w ∈ wsX70, w ∈ wsX7_readWant := fun w h => List.mem_cons_of_mem _ (List.mem_append_left _ (List.mem_append_right _ h))
theorem iw_X7_readWant_X6 : ∀ w ∈ wsX60, w ∈ wsX7_readWant := fun w h => List.mem_cons_of_mem _ (List.mem_append_right _ h)
theorem qv_X7_readWant : yX7_readWant.cls = RX7 ∧ yX7_readWant.cls ≠ "java/lang/invoke/MethodHandle" ∧ yX7_readWant.cls ≠ "java/lang/invoke/VarHandle" ∧ (parseMethodDescriptor yX7_readWant.desc).map (fun d => d.parameters.length) = some 1 := by decide +kernel
def f_X7_readWant_0 (N : Nat) (z : ql_Y) (x1 : Int32) : Option (Int32 × ql_Y) := (f_X7_readTestC N ((ql_up z.1 2 (fun _ => ((z.1 2 0) + 1))), z.2) x1).bind fun u1 => if u1.1 = (-1) then some (0, u1.2) else (f_X6_add N u1.2.2 4 u1.1 (-9)).bind fun u3 => some (1, (u1.2.1, u3.2))
def f_X7_readWant (N : Nat) (z : ql_Y) (x1 : Int32) : Option (Int32 × ql_Y) := f_X7_readWant_0 N z x1
set_option maxHeartbeats 4000000 in
set_option maxRecDepth 100000 in
theorem w_X7_readWant_0 {p : Program} {l : Launch} {e : Env} {s : State} {m : MethodId} {args : Array Value} {below : List Frame} {meth : Method} {c : Code} {dC : Nat → ClassId} {dI : Nat → Nat → Nat} {A : Nat → Prop} {h : Nat} {ad : Nat → Nat} {hp : Nat} {pad : Nat → Nat} {cI : ClassId} {res : Int32 × ql_Y} (C0 : ql_C p s m args meth c cX7_readWant 3 (some .boolean) wsX7_readWant RX7 (dC, dI) [(cI, .int)] A) (N : Nat) : ∀ (z : ql_Y) (x1 : Int32), f_X7_readWant_0 N z x1 = some res → ∀ (H : Heap) (locs : List Loc) (ls : Array Slot), va_P (dC, dI) vwCl ((ql_rw h ad hp pad cI) z) H → va_D A ((ql_rw h ad hp pad cI) z) → va_S A s.heap H locs → lv_has ls 3 [(0, .ref h), (1, .int x1)] → W p l e rm_X7_readWant s m args below meth c H locs 0 0 (ql_Qi below (dC, dI) (ql_rw h ad hp pad cI) A args s res) (F0 m 0 ls []) := by
  have C0q := C0
  obtain ⟨hx, hb, hr, hml, hown, hts, hlocks, hK, hA⟩ := C0q
  have fl38 := hts (Cond.fieldLink RX7 38 "TestedLoops$Reader" "now" "I") (by decide +kernel)
  have fl21 := hts (Cond.fieldLink RX7 21 "TestedLoops$Reader" "plan" "LTestedLoops$Plan;") (by decide +kernel)
  intro z x1 hf H locs ls hP hD hS hl
  unfold f_X7_readWant_0 at hf
  refine lv_aload_n hx hb dX7_readWant_0 rfl (lv_at hl 0 rfl) ?_
  refine lv_dup hx hb dX7_readWant_1 rfl ?_
  refine va_get (D := (dC, dI)) (ci := 7) (v := .int (z.1 2 0)) (C := RX7) (T := TX7) (N := 5) hx hb hts iw_X7_readWant_X7 hown hK.1 hP 0 rfl rfl 2 (by decide) fl38 (fun _ h9 => h9) rfl dX7_readWant_2 ?_
  refine lv_iconst (v := 1) hx hb dX7_readWant_5 (by decide) ?_
  refine lv_iadd hx hb dX7_readWant_6 ?_
  refine va_put (D := (dC, dI)) (ci := 7) (v := .int ((z.1 2 0) + 1)) (ty := .int) (C := RX7) (T := TX7) (N := 5) hx hb hts iw_X7_readWant_X7 tyX7 tyX7_ok nmX7 hown hK.1 hP hD hS 0 rfl rfl 2 (by decide) fl38 (fun _ h9 => h9) rfl (by decide +kernel) rfl rfl (Nat.le_of_ble_eq_true rfl) dX7_readWant_7 (fun H locs hP hD hS => ?_)
  refine lv_aload_n hx hb dX7_readWant_10 rfl (lv_at hl 0 rfl) ?_
  refine lv_iload_n hx hb dX7_readWant_11 rfl (lv_at hl 1 rfl) ?_
  obtain ⟨u1, hu1, hf⟩ := ql_bd hf
  refine ql_callVi (As := [.int x1]) (rest := []) C0 (c_X7_readTestC l dC dI h ad hp pad cI N ((ql_up z.1 2 (fun _ => ((z.1 2 0) + 1))), z.2) x1 u1 hu1) (cwV 1 hts gX7_readWant_X7_readTest rfl rfl rfl qv_X7_readTest ⟨Nat.le_of_ble_eq_true rfl, Nat.le_of_ble_eq_true rfl⟩) (va_recv hK.1 hP (ci := 7) (q0 := 0) rfl rfl) hP hD hS hl.1 rfl rfl (Nat.le_of_ble_eq_true rfl) dX7_readWant_12 (fun H locs hP hD hS => ?_)
  refine lv_istore_n (lv' := [(2, .int u1.1), (0, .ref h), (1, .int x1)]) hx hb dX7_readWant_15 rfl hl (by decide) rfl (fun ls hl => ?_)
  refine lv_iload_n hx hb dX7_readWant_16 rfl (lv_at hl 0 rfl) ?_
  refine lv_iconst (v := (-1)) hx hb dX7_readWant_17 (by decide) ?_
  refine lv_icmp_ne (tgt := 23) hx hb dX7_readWant_18 (by decide) (fun c2 => ?_) (fun c2 => ?_)
  · have hf := (if_neg c2).symm.trans hf
    refine lv_aload_n hx hb dX7_readWant_23 rfl (lv_at hl 1 rfl) ?_
    refine va_get (D := (dC, dI)) (ci := 7) (v := .ref hp) (C := RX7) (T := TX7) (N := 5) hx hb hts iw_X7_readWant_X7 hown hK.1 hP 0 rfl rfl 4 (by decide) fl21 (fun _ h9 => h9) rfl dX7_readWant_24 ?_
    refine lv_iconst (v := 4) hx hb dX7_readWant_27 (by decide) ?_
    refine lv_iload_n hx hb dX7_readWant_28 rfl (lv_at hl 0 rfl) ?_
    refine lv_bipush (v := (-9)) hx hb dX7_readWant_29 (by decide) ?_
    obtain ⟨u3, hu3, hf⟩ := ql_bd hf
    refine ql_subVi (wr := ql_rc h ad hp cI u1.2.1) (As := [.int 4, .int u1.1, .int (-9)]) (rest := []) C0 (c_X6_add l dC dI hp pad cI N u1.2.2 4 u1.1 (-9) u3 hu3) (cwV 3 hts gX7_readWant_X6_add rfl rfl rfl qv_X6_add ⟨Nat.le_of_ble_eq_true rfl, Nat.le_of_ble_eq_true rfl⟩) (hK.sub [0] rfl) [3, 4, 5, 6, 7, 8, 9, 10] [0, 1, 2] rfl rfl rfl rfl (by decide) (va_recv hK.1 hP (ci := 6) (q0 := 3) rfl rfl) hP hD hS hl.1 rfl rfl (Nat.le_of_ble_eq_true rfl) dX7_readWant_31 (fun H locs hP hD hS => ?_)
    have hP : va_P (dC, dI) vwCl ((ql_rw h ad hp pad cI) (u1.2.1, u3.2)) _ := hP
    have hD : va_D A ((ql_rw h ad hp pad cI) (u1.2.1, u3.2)) := hD
    refine lv_pop hx hb dX7_readWant_34 rfl ?_
    refine lv_iconst (v := 1) hx hb dX7_readWant_35 (by decide) ?_
    exact ql_zret C0 (Or.inr rfl) hf hP hD hS dX7_readWant_36
  · have hf := (if_pos c2).symm.trans hf
    refine lv_iconst (v := 0) hx hb dX7_readWant_21 (by decide) ?_
    exact ql_zret C0 (Or.inl rfl) hf hP hD hS dX7_readWant_22
set_option maxRecDepth 100000 in
theorem c_X7_readWant (l : Launch) (dC : Nat → ClassId) (dI : Nat → Nat → Nat) (h : Nat) (ad : Nat → Nat) (hp : Nat) (pad : Nat → Nat) (cI : ClassId) (N : Nat) (z : ql_Y) (x1 : Int32) (res : Int32 × ql_Y) (hf : f_X7_readWant N z x1 = some res) : ql_Mi l yX7_readWant wsX7_readWant rm_X7_readWant (dC, dI) [(cI, .int)] (ql_rw h ad hp pad cI) [.ref h, .int x1] z res :=
  ql_start_i (by decide) rfl (Nat.le_of_ble_eq_true rfl) (fun p e s m below meth c A ls C0 hl hP hD hS => w_X7_readWant_0 C0 N z x1 hf s.heap [] ls hP hD hS (lv_sub (show lv_has ls 3 [(0, .ref h), (1, .int x1)] from hl) [0, 1] rfl))
theorem qv_X7_readStatement : yX7_readStatement.cls = RX7 ∧ yX7_readStatement.cls ≠ "java/lang/invoke/MethodHandle" ∧ yX7_readStatement.cls ≠ "java/lang/invoke/VarHandle" ∧ (parseMethodDescriptor yX7_readStatement.desc).map (fun d => d.parameters.length) = some 1 := by decide +kernel
/-! ===== TestedLoops$Reader.readStatements(I)Z ===== -/
abbrev rm_X7_readStatements (fr lo : Nat) : Room := { frames := fr + 1, cells := 0, slots := 0, locals := lo + 21 }
theorem iw_X7_readStatements_X7 : ∀ w ∈ wsX70, w ∈ wsX7_readStatements := fun w h => List.mem_cons_of_mem _ (List.mem_append_left _ (List.mem_append_right _ h))
theorem iw_X7_readStatements_X6 : ∀ w ∈ wsX60, w ∈ wsX7_readStatements := fun w h => List.mem_cons_of_mem _ (List.mem_append_right _ h)
theorem qv_X7_readStatements : yX7_readStatements.cls = RX7 ∧ yX7_readStatements.cls ≠ "java/lang/invoke/MethodHandle" ∧ yX7_readStatements.cls ≠ "java/lang/invoke/VarHandle" ∧ (parseMethodDescriptor yX7_readStatements.desc).map (fun d => d.parameters.length) = some 1 := by decide +kernel
def f_X7_readStatements_50 (N : Nat) (r1 : ql_Y → Int32 → Option (Int32 × ql_Y)) (z : ql_Y) (x2 : Int32) : Option (Int32 × ql_Y) := if ql_bz x2 = true then some (x2, z) else none
def f_X7_readStatements_8 (N : Nat) (r1 : ql_Y → Int32 → Option (Int32 × ql_Y)) : Nat → ql_Y → Int32 → Int32 → Int32 → Option (Int32 × ql_Y)
  | 0, _, _, _, _ => none
  | n + 1, z, x1, x2, x3 => if 300 ≤ x3 then f_X7_readStatements_50 N r1 z x2 else if x2 = 0 then f_X7_readStatements_50 N r1 z x2 else (f_X7_token N z).bind fun u3 => if u3 = 17 then (r1 ((ql_up z.1 2 (fun _ => ((z.1 2 0) + 1))), z.2) x1).bind fun u5 => f_X7_readStatements_8 N r1 n u5.2 x1 u5.1 (x3 + 1) else f_X7_readStatements_50 N r1 z x2
def f_X7_readStatements_0 (N : Nat) (r1 : ql_Y → Int32 → Option (Int32 × ql_Y)) (z : ql_Y) (x1 : Int32) : Option (Int32 × ql_Y) := (r1 z x1).bind fun u6 => f_X7_readStatements_8 N r1 N u6.2 x1 u6.1 0
def f_X7_readStatements (N : Nat) (r1 : ql_Y → Int32 → Option (Int32 × ql_Y)) (z : ql_Y) (x1 : Int32) : Option (Int32 × ql_Y) := f_X7_readStatements_0 N r1 z x1
set_option maxHeartbeats 4000000 in
set_option maxRecDepth 100000 in
theorem w_X7_readStatements_50 {p : Program} {l : Launch} {e : Env} {s : State} {m : MethodId} {args : Array Value} {below : List Frame} {meth : Method} {c : Code} {dC : Nat → ClassId} {dI : Nat → Nat → Nat} {A : Nat → Prop} {h : Nat} {ad : Nat → Nat} {hp : Nat} {pad : Nat → Nat} {cI : ClassId} {res : Int32 × ql_Y} (C0 : ql_C p s m args meth c cX7_readStatements 4 (some .boolean) wsX7_readStatements RX7 (dC, dI) [(cI, .int)] A) (N : Nat) (r1 : ql_Y → Int32 → Option (Int32 × ql_Y)) (fr lo : Nat) (h1 : ∀ (z : ql_Y) (x0 : Int32) (res : Int32 × ql_Y), r1 z x0 = some res → ql_Mi l yX7_readStatement wsX7_readStatement { frames := fr, cells := 0, slots := 0, locals := lo } (dC, dI) [(cI, .int)] (ql_rw h ad hp pad cI) [.ref h, .int x0] z res) : ∀ (z : ql_Y) (x2 : Int32), f_X7_readStatements_50 N r1 z x2 = some res → ∀ (H : Heap) (locs : List Loc) (ls : Array Slot), va_P (dC, dI) vwCl ((ql_rw h ad hp pad cI) z) H → va_D A ((ql_rw h ad hp pad cI) z) → va_S A s.heap H locs → lv_has ls 4 [(0, .ref h), (2, .int x2)] → W p l e (rm_X7_readStatements fr lo) s m args below meth c H locs 0 0 (ql_Qi below (dC, dI) (ql_rw h ad hp pad cI) A args s res) (F0 m 50 ls []) := by
  have C0q := C0
  obtain ⟨hx, hb, hr, hml, hown, hts, hlocks, hK, hA⟩ := C0q
  intro z x2 hf H locs ls hP hD hS hl
  unfold f_X7_readStatements_50 at hf
  refine lv_iload_n hx hb dX7_readStatements_50 rfl (lv_at hl 1 rfl) ?_
  exact ql_zret C0 (ql_bzo (ql_gt hf)) (ql_gx hf) hP hD hS dX7_readStatements_51
set_option maxHeartbeats 4000000 in
set_option maxRecDepth 100000 in
theorem w_X7_readStatements_8 {p : Program} {l : Launch} {e : Env} {s : State} {m : MethodId} {args : Array Value} {below : List Frame} {meth : Method} {c : Code} {dC : Nat → ClassId} {dI : Nat → Nat → Nat} {A : Nat → Prop} {h : Nat} {ad : Nat → Nat} {hp : Nat} {pad : Nat → Nat} {cI : ClassId} {res : Int32 × ql_Y} (C0 : ql_C p s m args meth c cX7_readStatements 4 (some .boolean) wsX7_readStatements RX7 (dC, dI) [(cI, .int)] A) (N : Nat) (r1 : ql_Y → Int32 → Option (Int32 × ql_Y)) (fr lo : Nat) (h1 : ∀ (z : ql_Y) (x0 : Int32) (res : Int32 × ql_Y), r1 z x0 = some res → ql_Mi l yX7_readStatement wsX7_readStatement { frames := fr, cells := 0, slots := 0, locals := lo } (dC, dI) [(cI, .int)] (ql_rw h ad hp pad cI) [.ref h, .int x0] z res) : ∀ (n : Nat), ∀ (z : ql_Y) (x1 : Int32) (x2 : Int32) (x3 : Int32), f_X7_readStatements_8 N r1 n z x1 x2 x3 = some res → ∀ (H : Heap) (locs : List Loc) (ls : Array Slot), va_P (dC, dI) vwCl ((ql_rw h ad hp pad cI) z) H → va_D A ((ql_rw h ad hp pad cI) z) → va_S A s.heap H locs → lv_has ls 4 [(0, .ref h), (1, .int x1), (2, .int x2), (3, .int x3)] → W p l e (rm_X7_readStatements fr lo) s m args below meth c H locs 0 0 (ql_Qi below (dC, dI) (ql_rw h ad hp pad cI) A args s res) (F0 m 8 ls []) := by
  have C0q := C0
  obtain ⟨hx, hb, hr, hml, hown, hts, hlocks, hK, hA⟩ := C0q
  have fl38 := hts (Cond.fieldLink RX7 38 "TestedLoops$Reader" "now" "I") (by decide +kernel)
  intro n
  induction n with
  | zero =>
    intro z x1 x2 x3 hf
    rw [f_X7_readStatements_8] at hf
    cases hf
  | succ n ih =>
    intro z x1 x2 x3 hf H locs ls hP hD hS hl
    rw [f_X7_readStatements_8] at hf
    refine lv_iload_n hx hb dX7_readStatements_8 rfl (lv_at hl 3 rfl) ?_
    refine lv_sipush (v := 300) hx hb dX7_readStatements_9 (by decide) ?_
    refine lv_icmp_ge (tgt := 50) hx hb dX7_readStatements_12 (by decide) (fun c1 => ?_) (fun c1 => ?_)
    · have hf := (if_pos c1).symm.trans hf
      exact w_X7_readStatements_50 C0 N r1 fr lo h1 _ _ hf _ _ _ hP hD hS (lv_sub hl [0, 2] rfl)
    · have hf := (if_neg c1).symm.trans hf
      refine lv_iload_n hx hb dX7_readStatements_15 rfl (lv_at hl 2 rfl) ?_
      refine lv_if_eq (tgt := 50) hx hb dX7_readStatements_16 (by decide) (fun c2 => ?_) (fun c2 => ?_)
      · have hf := (if_pos c2).symm.trans hf
        exact w_X7_readStatements_50 C0 N r1 fr lo h1 _ _ hf _ _ _ hP hD hS (lv_sub hl [0, 2] rfl)
      · have hf := (if_neg c2).symm.trans hf
        refine lv_aload_n hx hb dX7_readStatements_19 rfl (lv_at hl 0 rfl) ?_
        obtain ⟨u3, hu3, hf⟩ := ql_bd hf
        refine ql_callRVi (As := []) (rest := []) C0 (c_X7_token l dC dI h ad hp pad cI N z u3 hu3) (cwV 0 hts gX7_readStatements_X7_token rfl rfl rfl qv_X7_token ⟨by show 0 + 1 ≤ fr + 1; omega, by show 8 + (1 + 11) + (0) ≤ lo + 21; omega⟩) (va_recv hK.1 hP (ci := 7) (q0 := 0) rfl rfl) hK hP hS hl.1 rfl rfl (Nat.le_of_ble_eq_true rfl) dX7_readStatements_20 (fun H1 locs hk hS => ?_)
        have hP := ql_keep hP hk
        refine lv_bipush (v := 17) hx hb dX7_readStatements_23 (by decide) ?_
        refine lv_icmp_ne (tgt := 50) hx hb dX7_readStatements_25 (by decide) (fun c4 => ?_) (fun c4 => ?_)
        · have hf := (if_neg c4).symm.trans hf
          exact w_X7_readStatements_50 C0 N r1 fr lo h1 _ _ hf _ _ _ hP hD hS (lv_sub hl [0, 2] rfl)
        · have hf := (if_pos c4).symm.trans hf
          refine lv_aload_n hx hb dX7_readStatements_28 rfl (lv_at hl 0 rfl) ?_
          refine lv_dup hx hb dX7_readStatements_29 rfl ?_
          refine va_get (D := (dC, dI)) (ci := 7) (v := .int (z.1 2 0)) (C := RX7) (T := TX7) (N := 5) hx hb hts iw_X7_readStatements_X7 hown hK.1 hP 0 rfl rfl 2 (by decide) fl38 (fun _ h9 => h9) rfl dX7_readStatements_30 ?_
          refine lv_iconst (v := 1) hx hb dX7_readStatements_33 (by decide) ?_
          refine lv_iadd hx hb dX7_readStatements_34 ?_
          refine va_put (D := (dC, dI)) (ci := 7) (v := .int ((z.1 2 0) + 1)) (ty := .int) (C := RX7) (T := TX7) (N := 5) hx hb hts iw_X7_readStatements_X7 tyX7 tyX7_ok nmX7 hown hK.1 hP hD hS 0 rfl rfl 2 (by decide) fl38 (fun _ h9 => h9) rfl (by decide +kernel) rfl rfl (Nat.le_of_ble_eq_true rfl) dX7_readStatements_35 (fun H locs hP hD hS => ?_)
          refine lv_aload_n hx hb dX7_readStatements_38 rfl (lv_at hl 0 rfl) ?_
          refine lv_iload_n hx hb dX7_readStatements_39 rfl (lv_at hl 1 rfl) ?_
          obtain ⟨u5, hu5, hf⟩ := ql_bd hf
          refine ql_callVi (As := [.int x1]) (rest := []) C0 (h1 ((ql_up z.1 2 (fun _ => ((z.1 2 0) + 1))), z.2) x1 u5 hu5) (cwV 1 hts gX7_readStatements_X7_readStatement rfl rfl rfl qv_X7_readStatement ⟨by show fr + 1 ≤ fr + 1; omega, by show 8 + (2 + 11) + (lo) ≤ lo + 21; omega⟩) (va_recv hK.1 hP (ci := 7) (q0 := 0) rfl rfl) hP hD hS hl.1 rfl rfl (Nat.le_of_ble_eq_true rfl) dX7_readStatements_40 (fun H locs hP hD hS => ?_)
          refine lv_istore_n (lv' := [(2, .int u5.1), (0, .ref h), (1, .int x1), (3, .int x3)]) hx hb dX7_readStatements_43 rfl hl (by decide) rfl (fun ls hl => ?_)
          refine lv_iinc (v := (x3 + 1)) (lv' := [(3, .int (x3 + 1)), (2, .int u5.1), (0, .ref h), (1, .int x1)]) hx hb dX7_readStatements_44 hl (k := 3) rfl rfl (by decide) rfl (fun ls hl => ?_)
          refine lv_goto (tgt := 8) hx hb dX7_readStatements_47 (by decide) ?_
          exact ih _ _ _ _ hf _ _ _ hP hD hS (lv_sub hl [2, 3, 1, 0] rfl)
set_option maxHeartbeats 4000000 in
set_option maxRecDepth 100000 in
theorem w_X7_readStatements_0 {p : Program} {l : Launch} {e : Env} {s : State} {m : MethodId} {args : Array Value} {below : List Frame} {meth : Method} {c : Code} {dC : Nat → ClassId} {dI : Nat → Nat → Nat} {A : Nat → Prop} {h : Nat} {ad : Nat → Nat} {hp : Nat} {pad : Nat → Nat} {cI : ClassId} {res : Int32 × ql_Y} (C0 : ql_C p s m args meth c cX7_readStatements 4 (some .boolean) wsX7_readStatements RX7 (dC, dI) [(cI, .int)] A) (N : Nat) (r1 : ql_Y → Int32 → Option (Int32 × ql_Y)) (fr lo : Nat) (h1 : ∀ (z : ql_Y) (x0 : Int32) (res : Int32 × ql_Y), r1 z x0 = some res → ql_Mi l yX7_readStatement wsX7_readStatement { frames := fr, cells := 0, slots := 0, locals := lo } (dC, dI) [(cI, .int)] (ql_rw h ad hp pad cI) [.ref h, .int x0] z res) : ∀ (z : ql_Y) (x1 : Int32), f_X7_readStatements_0 N r1 z x1 = some res → ∀ (H : Heap) (locs : List Loc) (ls : Array Slot), va_P (dC, dI) vwCl ((ql_rw h ad hp pad cI) z) H → va_D A ((ql_rw h ad hp pad cI) z) → va_S A s.heap H locs → lv_has ls 4 [(0, .ref h), (1, .int x1)] → W p l e (rm_X7_readStatements fr lo) s m args below meth c H locs 0 0 (ql_Qi below (dC, dI) (ql_rw h ad hp pad cI) A args s res) (F0 m 0 ls []) := by
  have C0q := C0
  obtain ⟨hx, hb, hr, hml, hown, hts, hlocks, hK, hA⟩ := C0q
  intro z x1 hf H locs ls hP hD hS hl
  unfold f_X7_readStatements_0 at hf
  refine lv_aload_n hx hb dX7_readStatements_0 rfl (lv_at hl 0 rfl) ?_
  refine lv_iload_n hx hb dX7_readStatements_1 rfl (lv_at hl 1 rfl) ?_
  obtain ⟨u6, hu6, hf⟩ := ql_bd hf
  refine ql_callVi (As := [.int x1]) (rest := []) C0 (h1 z x1 u6 hu6) (cwV 1 hts gX7_readStatements_X7_readStatement rfl rfl rfl qv_X7_readStatement ⟨by show fr + 1 ≤ fr + 1; omega, by show 8 + (2 + 11) + (lo) ≤ lo + 21; omega⟩) (va_recv hK.1 hP (ci := 7) (q0 := 0) rfl rfl) hP hD hS hl.1 rfl rfl (Nat.le_of_ble_eq_true rfl) dX7_readStatements_2 (fun H locs hP hD hS => ?_)
  refine lv_istore_n (lv' := [(2, .int u6.1), (0, .ref h), (1, .int x1)]) hx hb dX7_readStatements_5 rfl hl (by decide) rfl (fun ls hl => ?_)
  refine lv_iconst (v := 0) hx hb dX7_readStatements_6 (by decide) ?_
  refine lv_istore_n (lv' := [(3, .int 0), (2, .int u6.1), (0, .ref h), (1, .int x1)]) hx hb dX7_readStatements_7 rfl hl (by decide) rfl (fun ls hl => ?_)
  exact w_X7_readStatements_8 C0 N r1 fr lo h1 N _ _ _ _ hf _ _ _ hP hD hS (lv_sub hl [2, 3, 1, 0] rfl)
set_option maxRecDepth 100000 in
theorem c_X7_readStatements (l : Launch) (dC : Nat → ClassId) (dI : Nat → Nat → Nat) (h : Nat) (ad : Nat → Nat) (hp : Nat) (pad : Nat → Nat) (cI : ClassId) (N : Nat) (r1 : ql_Y → Int32 → Option (Int32 × ql_Y)) (fr lo : Nat) (h1 : ∀ (z : ql_Y) (x0 : Int32) (res : Int32 × ql_Y), r1 z x0 = some res → ql_Mi l yX7_readStatement wsX7_readStatement { frames := fr, cells := 0, slots := 0, locals := lo } (dC, dI) [(cI, .int)] (ql_rw h ad hp pad cI) [.ref h, .int x0] z res) (z : ql_Y) (x1 : Int32) (res : Int32 × ql_Y) (hf : f_X7_readStatements N r1 z x1 = some res) : ql_Mi l yX7_readStatements wsX7_readStatements (rm_X7_readStatements fr lo) (dC, dI) [(cI, .int)] (ql_rw h ad hp pad cI) [.ref h, .int x1] z res :=
  ql_start_i (by decide) rfl (Nat.le_of_ble_eq_true rfl) (fun p e s m below meth c A ls C0 hl hP hD hS => w_X7_readStatements_0 C0 N r1 fr lo h1 z x1 hf s.heap [] ls hP hD hS (lv_sub (show lv_has ls 4 [(0, .ref h), (1, .int x1)] from hl) [0, 1] rfl))
/-! ===== TestedLoops$Reader.readChoice(I)Z ===== -/
abbrev rm_X7_readChoice (fr lo : Nat) : Room := { frames := fr + 32, cells := 0, slots := 0, locals := lo + 726 }
theorem iw_X7_readChoice_X7 : ∀ w ∈ wsX70, w ∈ wsX7_readChoice := fun w h => List.mem_cons_of_mem _ (List.mem_append_left _ (List.mem_append_right _ h))
theorem iw_X7_readChoice_X6 : ∀ w ∈ wsX60, w ∈ wsX7_readChoice := fun w h => List.mem_cons_of_mem _ (List.mem_append_right _ h)
theorem qv_X7_readChoice : yX7_readChoice.cls = RX7 ∧ yX7_readChoice.cls ≠ "java/lang/invoke/MethodHandle" ∧ yX7_readChoice.cls ≠ "java/lang/invoke/VarHandle" ∧ (parseMethodDescriptor yX7_readChoice.desc).map (fun d => d.parameters.length) = some 1 := by decide +kernel
def f_X7_readChoice_146 (N : Nat) (r1 : ql_Y → Int32 → Option (Int32 × ql_Y)) (z : ql_Y) : Option (Int32 × ql_Y) := (f_X7_take N z 5).bind fun u1 => if ql_bz u1.1 = true then some (u1.1, u1.2) else none
def f_X7_readChoice_0 (N : Nat) (r1 : ql_Y → Int32 → Option (Int32 × ql_Y)) (z : ql_Y) (x1 : Int32) : Option (Int32 × ql_Y) := (f_X7_readTestC N ((ql_up z.1 2 (fun _ => ((z.1 2 0) + 1))), z.2) x1).bind fun u2 => if u2.1 = (-1) then some (0, u2.2) else (f_X7_take N u2.2 3).bind fun u4 => if u4.1 = 0 then some (0, u4.2) else (f_X6_add N u4.2.2 2 u2.1 (-9)).bind fun u6 => (f_X7_readStatements N r1 (u4.2.1, u6.2) x1).bind fun u7 => if u7.1 = 0 then some (0, u7.2) else (f_X7_token N u7.2).bind fun u9 => if u9 = 4 then (f_X6_add N u7.2.2 5 0 (-9)).bind fun u11 => if ql_ib u6.1 300 = true then (f_X7_readStatements N r1 ((ql_up u7.2.1 2 (fun _ => ((u7.2.1 2 0) + 1))), (ql_up u11.2 2 (upd (u11.2 2) u6.1.toNatClampNeg (u11.2 3 0)))) x1).bind fun u12 => if u12.1 = 0 then some (0, u12.2) else if ql_ib u11.1 300 = true then f_X7_readChoice_146 N r1 (u12.2.1, (ql_up u12.2.2 2 (upd (u12.2.2 2) u11.1.toNatClampNeg (u12.2.2 3 0)))) else none else none else if ql_ib u6.1 300 = true then f_X7_readChoice_146 N r1 (u7.2.1, (ql_up u7.2.2 2 (upd (u7.2.2 2) u6.1.toNatClampNeg (u7.2.2 3 0)))) else none
def f_X7_readChoice (N : Nat) (r1 : ql_Y → Int32 → Option (Int32 × ql_Y)) (z : ql_Y) (x1 : Int32) : Option (Int32 × ql_Y) := f_X7_readChoice_0 N r1 z x1
set_option maxHeartbeats 4000000 in
set_option maxRecDepth 100000 in
theorem w_X7_readChoice_146 {p : Program} {l : Launch} {e : Env} {s : State} {m : MethodId} {args : Array Value} {below : List Frame} {meth : Method} {c : Code} {dC : Nat → ClassId} {dI : Nat → Nat → Nat} {A : Nat → Prop} {h : Nat} {ad : Nat → Nat} {hp : Nat} {pad : Nat → Nat} {cI : ClassId} {res : Int32 × ql_Y} (C0 : ql_C p s m args meth c cX7_readChoice 5 (some .boolean) wsX7_readChoice RX7 (dC, dI) [(cI, .int)] A) (N : Nat) (r1 : ql_Y → Int32 → Option (Int32 × ql_Y)) (fr lo : Nat) (h1 : ∀ (z : ql_Y) (x0 : Int32) (res : Int32 × ql_Y), r1 z x0 = some res → ql_Mi l yX7_readStatement wsX7_readStatement { frames := fr, cells := 0, slots := 0, locals := lo } (dC, dI) [(cI, .int)] (ql_rw h ad hp pad cI) [.ref h, .int x0] z res) : ∀ (z : ql_Y), f_X7_readChoice_146 N r1 z = some res → ∀ (H : Heap) (locs : List Loc) (ls : Array Slot), va_P (dC, dI) vwCl ((ql_rw h ad hp pad cI) z) H → va_D A ((ql_rw h ad hp pad cI) z) → va_S A s.heap H locs → lv_has ls 5 [(0, .ref h)] → W p l e (rm_X7_readChoice fr lo) s m args below meth c H locs 0 0 (ql_Qi below (dC, dI) (ql_rw h ad hp pad cI) A args s res) (F0 m 146 ls []) := by
  have C0q := C0
  obtain ⟨hx, hb, hr, hml, hown, hts, hlocks, hK, hA⟩ := C0q
  intro z hf H locs ls hP hD hS hl
  unfold f_X7_readChoice_146 at hf
  refine lv_aload_n hx hb dX7_readChoice_146 rfl (lv_at hl 0 rfl) ?_
  refine lv_iconst (v := 5) hx hb dX7_readChoice_147 (by decide) ?_
  obtain ⟨u1, hu1, hf⟩ := ql_bd hf
  refine ql_callVi (As := [.int 5]) (rest := []) C0 (c_X7_take l dC dI h ad hp pad cI N z 5 u1 hu1) (cwV 1 hts gX7_readChoice_X7_take rfl rfl rfl qv_X7_take ⟨by show 1 + 1 ≤ fr + 32; omega, by show 8 + (2 + 11) + (20) ≤ lo + 726; omega⟩) (va_recv hK.1 hP (ci := 7) (q0 := 0) rfl rfl) hP hD hS hl.1 rfl rfl (Nat.le_of_ble_eq_true rfl) dX7_readChoice_148 (fun H locs hP hD hS => ?_)
  exact ql_zret C0 (ql_bzo (ql_gt hf)) (ql_gx hf) hP hD hS dX7_readChoice_151
set_option maxHeartbeats 4000000 in
set_option maxRecDepth 100000 in
theorem w_X7_readChoice_0 {p : Program} {l : Launch} {e : Env} {s : State} {m : MethodId} {args : Array Value} {below : List Frame} {meth : Method} {c : Code} {dC : Nat → ClassId} {dI : Nat → Nat → Nat} {A : Nat → Prop} {h : Nat} {ad : Nat → Nat} {hp : Nat} {pad : Nat → Nat} {cI : ClassId} {res : Int32 × ql_Y} (C0 : ql_C p s m args meth c cX7_readChoice 5 (some .boolean) wsX7_readChoice RX7 (dC, dI) [(cI, .int)] A) (N : Nat) (r1 : ql_Y → Int32 → Option (Int32 × ql_Y)) (fr lo : Nat) (h1 : ∀ (z : ql_Y) (x0 : Int32) (res : Int32 × ql_Y), r1 z x0 = some res → ql_Mi l yX7_readStatement wsX7_readStatement { frames := fr, cells := 0, slots := 0, locals := lo } (dC, dI) [(cI, .int)] (ql_rw h ad hp pad cI) [.ref h, .int x0] z res) : ∀ (z : ql_Y) (x1 : Int32), f_X7_readChoice_0 N r1 z x1 = some res → ∀ (H : Heap) (locs : List Loc) (ls : Array Slot), va_P (dC, dI) vwCl ((ql_rw h ad hp pad cI) z) H → va_D A ((ql_rw h ad hp pad cI) z) → va_S A s.heap H locs → lv_has ls 5 [(0, .ref h), (1, .int x1)] → W p l e (rm_X7_readChoice fr lo) s m args below meth c H locs 0 0 (ql_Qi below (dC, dI) (ql_rw h ad hp pad cI) A args s res) (F0 m 0 ls []) := by
  have C0q := C0
  obtain ⟨hx, hb, hr, hml, hown, hts, hlocks, hK, hA⟩ := C0q
  have fl38 := hts (Cond.fieldLink RX7 38 "TestedLoops$Reader" "now" "I") (by decide +kernel)
  have fl21 := hts (Cond.fieldLink RX7 21 "TestedLoops$Reader" "plan" "LTestedLoops$Plan;") (by decide +kernel)
  have fl115 := hts (Cond.fieldLink RX7 115 "TestedLoops$Plan" "to" "[I") (by decide +kernel)
  have fl118 := hts (Cond.fieldLink RX7 118 "TestedLoops$Plan" "steps" "I") (by decide +kernel)
  intro z x1 hf H locs ls hP hD hS hl
  unfold f_X7_readChoice_0 at hf
  refine lv_aload_n hx hb dX7_readChoice_0 rfl (lv_at hl 0 rfl) ?_
  refine lv_dup hx hb dX7_readChoice_1 rfl ?_
  refine va_get (D := (dC, dI)) (ci := 7) (v := .int (z.1 2 0)) (C := RX7) (T := TX7) (N := 5) hx hb hts iw_X7_readChoice_X7 hown hK.1 hP 0 rfl rfl 2 (by decide) fl38 (fun _ h9 => h9) rfl dX7_readChoice_2 ?_
  refine lv_iconst (v := 1) hx hb dX7_readChoice_5 (by decide) ?_
  refine lv_iadd hx hb dX7_readChoice_6 ?_
  refine va_put (D := (dC, dI)) (ci := 7) (v := .int ((z.1 2 0) + 1)) (ty := .int) (C := RX7) (T := TX7) (N := 5) hx hb hts iw_X7_readChoice_X7 tyX7 tyX7_ok nmX7 hown hK.1 hP hD hS 0 rfl rfl 2 (by decide) fl38 (fun _ h9 => h9) rfl (by decide +kernel) rfl rfl (Nat.le_of_ble_eq_true rfl) dX7_readChoice_7 (fun H locs hP hD hS => ?_)
  refine lv_aload_n hx hb dX7_readChoice_10 rfl (lv_at hl 0 rfl) ?_
  refine lv_iload_n hx hb dX7_readChoice_11 rfl (lv_at hl 1 rfl) ?_
  obtain ⟨u2, hu2, hf⟩ := ql_bd hf
  refine ql_callVi (As := [.int x1]) (rest := []) C0 (c_X7_readTestC l dC dI h ad hp pad cI N ((ql_up z.1 2 (fun _ => ((z.1 2 0) + 1))), z.2) x1 u2 hu2) (cwV 1 hts gX7_readChoice_X7_readTest rfl rfl rfl qv_X7_readTest ⟨by show 31 + 1 ≤ fr + 32; omega, by show 8 + (6 + 11) + (701) ≤ lo + 726; omega⟩) (va_recv hK.1 hP (ci := 7) (q0 := 0) rfl rfl) hP hD hS hl.1 rfl rfl (Nat.le_of_ble_eq_true rfl) dX7_readChoice_12 (fun H locs hP hD hS => ?_)
  refine lv_istore_n (lv' := [(2, .int u2.1), (0, .ref h), (1, .int x1)]) hx hb dX7_readChoice_15 rfl hl (by decide) rfl (fun ls hl => ?_)
  refine lv_iload_n hx hb dX7_readChoice_16 rfl (lv_at hl 0 rfl) ?_
  refine lv_iconst (v := (-1)) hx hb dX7_readChoice_17 (by decide) ?_
  refine lv_icmp_eq (tgt := 29) hx hb dX7_readChoice_18 (by decide) (fun c3 => ?_) (fun c3 => ?_)
  · have hf := (if_pos c3).symm.trans hf
    refine lv_iconst (v := 0) hx hb dX7_readChoice_29 (by decide) ?_
    exact ql_zret C0 (Or.inl rfl) hf hP hD hS dX7_readChoice_30
  · have hf := (if_neg c3).symm.trans hf
    refine lv_aload_n hx hb dX7_readChoice_21 rfl (lv_at hl 1 rfl) ?_
    refine lv_iconst (v := 3) hx hb dX7_readChoice_22 (by decide) ?_
    obtain ⟨u4, hu4, hf⟩ := ql_bd hf
    refine ql_callVi (As := [.int 3]) (rest := []) C0 (c_X7_take l dC dI h ad hp pad cI N u2.2 3 u4 hu4) (cwV 1 hts gX7_readChoice_X7_take rfl rfl rfl qv_X7_take ⟨by show 1 + 1 ≤ fr + 32; omega, by show 8 + (2 + 11) + (20) ≤ lo + 726; omega⟩) (va_recv hK.1 hP (ci := 7) (q0 := 0) rfl rfl) hP hD hS hl.1 rfl rfl (Nat.le_of_ble_eq_true rfl) dX7_readChoice_23 (fun H locs hP hD hS => ?_)
    refine lv_if_ne (tgt := 31) hx hb dX7_readChoice_26 (by decide) (fun c5 => ?_) (fun c5 => ?_)
    · have hf := (if_neg c5).symm.trans hf
      refine lv_aload_n hx hb dX7_readChoice_31 rfl (lv_at hl 1 rfl) ?_
      refine va_get (D := (dC, dI)) (ci := 7) (v := .ref hp) (C := RX7) (T := TX7) (N := 5) hx hb hts iw_X7_readChoice_X7 hown hK.1 hP 0 rfl rfl 4 (by decide) fl21 (fun _ h9 => h9) rfl dX7_readChoice_32 ?_
      refine lv_iconst (v := 2) hx hb dX7_readChoice_35 (by decide) ?_
      refine lv_iload_n hx hb dX7_readChoice_36 rfl (lv_at hl 0 rfl) ?_
      refine lv_bipush (v := (-9)) hx hb dX7_readChoice_37 (by decide) ?_
      obtain ⟨u6, hu6, hf⟩ := ql_bd hf
      refine ql_subVi (wr := ql_rc h ad hp cI u4.2.1) (As := [.int 2, .int u2.1, .int (-9)]) (rest := []) C0 (c_X6_add l dC dI hp pad cI N u4.2.2 2 u2.1 (-9) u6 hu6) (cwV 3 hts gX7_readChoice_X6_add rfl rfl rfl qv_X6_add ⟨by show 1 + 1 ≤ fr + 32; omega, by show 8 + (5 + 11) + (21) ≤ lo + 726; omega⟩) (hK.sub [0] rfl) [3, 4, 5, 6, 7, 8, 9, 10] [0, 1, 2] rfl rfl rfl rfl (by decide) (va_recv hK.1 hP (ci := 6) (q0 := 3) rfl rfl) hP hD hS hl.1 rfl rfl (Nat.le_of_ble_eq_true rfl) dX7_readChoice_39 (fun H locs hP hD hS => ?_)
      have hP : va_P (dC, dI) vwCl ((ql_rw h ad hp pad cI) (u4.2.1, u6.2)) _ := hP
      have hD : va_D A ((ql_rw h ad hp pad cI) (u4.2.1, u6.2)) := hD
      refine lv_istore_n (lv' := [(3, .int u6.1), (2, .int u2.1), (0, .ref h), (1, .int x1)]) hx hb dX7_readChoice_42 rfl hl (by decide) rfl (fun ls hl => ?_)
      refine lv_aload_n hx hb dX7_readChoice_43 rfl (lv_at hl 2 rfl) ?_
      refine lv_iload_n hx hb dX7_readChoice_44 rfl (lv_at hl 3 rfl) ?_
      obtain ⟨u7, hu7, hf⟩ := ql_bd hf
      refine ql_callVi (As := [.int x1]) (rest := []) C0 (c_X7_readStatements l dC dI h ad hp pad cI N r1 fr lo h1 (u4.2.1, u6.2) x1 u7 hu7) (cwV 1 hts gX7_readChoice_X7_readStatements rfl rfl rfl qv_X7_readStatements ⟨by show fr + 1 + 1 ≤ fr + 32; omega, by show 8 + (4 + 11) + (lo + 21) ≤ lo + 726; omega⟩) (va_recv hK.1 hP (ci := 7) (q0 := 0) rfl rfl) hP hD hS hl.1 rfl rfl (Nat.le_of_ble_eq_true rfl) dX7_readChoice_45 (fun H locs hP hD hS => ?_)
      refine lv_if_ne (tgt := 53) hx hb dX7_readChoice_48 (by decide) (fun c8 => ?_) (fun c8 => ?_)
      · have hf := (if_neg c8).symm.trans hf
        refine lv_aload_n hx hb dX7_readChoice_53 rfl (lv_at hl 2 rfl) ?_
        obtain ⟨u9, hu9, hf⟩ := ql_bd hf
        refine ql_callRVi (As := []) (rest := []) C0 (c_X7_token l dC dI h ad hp pad cI N u7.2 u9 hu9) (cwV 0 hts gX7_readChoice_X7_token rfl rfl rfl qv_X7_token ⟨by show 0 + 1 ≤ fr + 32; omega, by show 8 + (1 + 11) + (0) ≤ lo + 726; omega⟩) (va_recv hK.1 hP (ci := 7) (q0 := 0) rfl rfl) hK hP hS hl.1 rfl rfl (Nat.le_of_ble_eq_true rfl) dX7_readChoice_54 (fun H1 locs hk hS => ?_)
        have hP := ql_keep hP hk
        refine lv_iconst (v := 4) hx hb dX7_readChoice_57 (by decide) ?_
        refine lv_icmp_ne (tgt := 130) hx hb dX7_readChoice_58 (by decide) (fun c10 => ?_) (fun c10 => ?_)
        · have hf := (if_neg c10).symm.trans hf
          refine lv_aload_n hx hb dX7_readChoice_130 rfl (lv_at hl 2 rfl) ?_
          refine va_get (D := (dC, dI)) (ci := 7) (v := .ref hp) (C := RX7) (T := TX7) (N := 5) hx hb hts iw_X7_readChoice_X7 hown hK.1 hP 0 rfl rfl 4 (by decide) fl21 (fun _ h9 => h9) rfl dX7_readChoice_131 ?_
          refine va_get (D := (dC, dI)) (ci := 6) (v := .ref (pad 2)) (C := RX6) (T := TX6) (N := 10) hx hb hts iw_X7_readChoice_X6 hown hK.1 hP 3 rfl rfl 2 (by decide) fl115 (fun _ h9 => h9) rfl dX7_readChoice_134 ?_
          refine lv_iload_n hx hb dX7_readChoice_137 rfl (lv_at hl 0 rfl) ?_
          refine lv_aload_n hx hb dX7_readChoice_138 rfl (lv_at hl 2 rfl) ?_
          refine va_get (D := (dC, dI)) (ci := 7) (v := .ref hp) (C := RX7) (T := TX7) (N := 5) hx hb hts iw_X7_readChoice_X7 hown hK.1 hP 0 rfl rfl 4 (by decide) fl21 (fun _ h9 => h9) rfl dX7_readChoice_139 ?_
          refine va_get (D := (dC, dI)) (ci := 6) (v := .int (u7.2.2 3 0)) (C := RX6) (T := TX6) (N := 10) hx hb hts iw_X7_readChoice_X6 hown hK.1 hP 3 rfl rfl 3 (by decide) fl118 (fun _ h9 => h9) rfl dX7_readChoice_142 ?_
          have g0 := ql_in (ql_gt hf)
          have hf := ql_gx hf
          refine va_iast (f := (u7.2.2 2)) hx hb hK.1 hP hD hS 6 0 rfl rfl g0 dX7_readChoice_145 (fun H locs hP hD hS => ?_)
          exact w_X7_readChoice_146 C0 N r1 fr lo h1 _ hf _ _ _ hP hD hS (lv_sub hl [2] rfl)
        · have hf := (if_pos c10).symm.trans hf
          refine lv_aload_n hx hb dX7_readChoice_61 rfl (lv_at hl 2 rfl) ?_
          refine lv_dup hx hb dX7_readChoice_62 rfl ?_
          refine va_get (D := (dC, dI)) (ci := 7) (v := .int (u7.2.1 2 0)) (C := RX7) (T := TX7) (N := 5) hx hb hts iw_X7_readChoice_X7 hown hK.1 hP 0 rfl rfl 2 (by decide) fl38 (fun _ h9 => h9) rfl dX7_readChoice_63 ?_
          refine lv_iconst (v := 1) hx hb dX7_readChoice_66 (by decide) ?_
          refine lv_iadd hx hb dX7_readChoice_67 ?_
          refine va_put (D := (dC, dI)) (ci := 7) (v := .int ((u7.2.1 2 0) + 1)) (ty := .int) (C := RX7) (T := TX7) (N := 5) hx hb hts iw_X7_readChoice_X7 tyX7 tyX7_ok nmX7 hown hK.1 hP hD hS 0 rfl rfl 2 (by decide) fl38 (fun _ h9 => h9) rfl (by decide +kernel) rfl rfl (Nat.le_of_ble_eq_true rfl) dX7_readChoice_68 (fun H locs hP hD hS => ?_)
          refine lv_aload_n hx hb dX7_readChoice_71 rfl (lv_at hl 2 rfl) ?_
          refine va_get (D := (dC, dI)) (ci := 7) (v := .ref hp) (C := RX7) (T := TX7) (N := 5) hx hb hts iw_X7_readChoice_X7 hown hK.1 hP 0 rfl rfl 4 (by decide) fl21 (fun _ h9 => h9) rfl dX7_readChoice_72 ?_
          refine lv_iconst (v := 5) hx hb dX7_readChoice_75 (by decide) ?_
          refine lv_iconst (v := 0) hx hb dX7_readChoice_76 (by decide) ?_
          refine lv_bipush (v := (-9)) hx hb dX7_readChoice_77 (by decide) ?_
          obtain ⟨u11, hu11, hf⟩ := ql_bd hf
          refine ql_subVi (wr := ql_rc h ad hp cI (ql_up u7.2.1 2 (fun _ => ((u7.2.1 2 0) + 1)))) (As := [.int 5, .int 0, .int (-9)]) (rest := []) C0 (c_X6_add l dC dI hp pad cI N u7.2.2 5 0 (-9) u11 hu11) (cwV 3 hts gX7_readChoice_X6_add rfl rfl rfl qv_X6_add ⟨by show 1 + 1 ≤ fr + 32; omega, by show 8 + (5 + 11) + (21) ≤ lo + 726; omega⟩) (hK.sub [0] rfl) [3, 4, 5, 6, 7, 8, 9, 10] [0, 1, 2] rfl rfl rfl rfl (by decide) (va_recv hK.1 hP (ci := 6) (q0 := 3) rfl rfl) hP hD hS hl.1 rfl rfl (Nat.le_of_ble_eq_true rfl) dX7_readChoice_79 (fun H locs hP hD hS => ?_)
          have hP : va_P (dC, dI) vwCl ((ql_rw h ad hp pad cI) ((ql_up u7.2.1 2 (fun _ => ((u7.2.1 2 0) + 1))), u11.2)) _ := hP
          have hD : va_D A ((ql_rw h ad hp pad cI) ((ql_up u7.2.1 2 (fun _ => ((u7.2.1 2 0) + 1))), u11.2)) := hD
          refine lv_istore (lv' := [(4, .int u11.1), (3, .int u6.1), (2, .int u2.1), (0, .ref h), (1, .int x1)]) hx hb dX7_readChoice_82 hl (by decide) rfl (fun ls hl => ?_)
          refine lv_aload_n hx hb dX7_readChoice_84 rfl (lv_at hl 3 rfl) ?_
          refine va_get (D := (dC, dI)) (ci := 7) (v := .ref hp) (C := RX7) (T := TX7) (N := 5) hx hb hts iw_X7_readChoice_X7 hown hK.1 hP 0 rfl rfl 4 (by decide) fl21 (fun _ h9 => h9) rfl dX7_readChoice_85 ?_
          refine va_get (D := (dC, dI)) (ci := 6) (v := .ref (pad 2)) (C := RX6) (T := TX6) (N := 10) hx hb hts iw_X7_readChoice_X6 hown hK.1 hP 3 rfl rfl 2 (by decide) fl115 (fun _ h9 => h9) rfl dX7_readChoice_88 ?_
          refine lv_iload_n hx hb dX7_readChoice_91 rfl (lv_at hl 1 rfl) ?_
          refine lv_aload_n hx hb dX7_readChoice_92 rfl (lv_at hl 3 rfl) ?_
          refine va_get (D := (dC, dI)) (ci := 7) (v := .ref hp) (C := RX7) (T := TX7) (N := 5) hx hb hts iw_X7_readChoice_X7 hown hK.1 hP 0 rfl rfl 4 (by decide) fl21 (fun _ h9 => h9) rfl dX7_readChoice_93 ?_
          refine va_get (D := (dC, dI)) (ci := 6) (v := .int (u11.2 3 0)) (C := RX6) (T := TX6) (N := 10) hx hb hts iw_X7_readChoice_X6 hown hK.1 hP 3 rfl rfl 3 (by decide) fl118 (fun _ h9 => h9) rfl dX7_readChoice_96 ?_
          have g0 := ql_in (ql_gt hf)
          have hf := ql_gx hf
          refine va_iast (f := (u11.2 2)) hx hb hK.1 hP hD hS 6 0 rfl rfl g0 dX7_readChoice_99 (fun H locs hP hD hS => ?_)
          refine lv_aload_n hx hb dX7_readChoice_100 rfl (lv_at hl 3 rfl) ?_
          refine lv_iload_n hx hb dX7_readChoice_101 rfl (lv_at hl 4 rfl) ?_
          obtain ⟨u12, hu12, hf⟩ := ql_bd hf
          refine ql_callVi (As := [.int x1]) (rest := []) C0 (c_X7_readStatements l dC dI h ad hp pad cI N r1 fr lo h1 ((ql_up u7.2.1 2 (fun _ => ((u7.2.1 2 0) + 1))), (ql_up u11.2 2 (upd (u11.2 2) u6.1.toNatClampNeg (u11.2 3 0)))) x1 u12 hu12) (cwV 1 hts gX7_readChoice_X7_readStatements rfl rfl rfl qv_X7_readStatements ⟨by show fr + 1 + 1 ≤ fr + 32; omega, by show 8 + (4 + 11) + (lo + 21) ≤ lo + 726; omega⟩) (va_recv hK.1 hP (ci := 7) (q0 := 0) rfl rfl) hP hD hS hl.1 rfl rfl (Nat.le_of_ble_eq_true rfl) dX7_readChoice_102 (fun H locs hP hD hS => ?_)
          refine lv_if_ne (tgt := 110) hx hb dX7_readChoice_105 (by decide) (fun c13 => ?_) (fun c13 => ?_)
          · have hf := (if_neg c13).symm.trans hf
            refine lv_aload_n hx hb dX7_readChoice_110 rfl (lv_at hl 3 rfl) ?_
            refine va_get (D := (dC, dI)) (ci := 7) (v := .ref hp) (C := RX7) (T := TX7) (N := 5) hx hb hts iw_X7_readChoice_X7 hown hK.1 hP 0 rfl rfl 4 (by decide) fl21 (fun _ h9 => h9) rfl dX7_readChoice_111 ?_
            refine va_get (D := (dC, dI)) (ci := 6) (v := .ref (pad 2)) (C := RX6) (T := TX6) (N := 10) hx hb hts iw_X7_readChoice_X6 hown hK.1 hP 3 rfl rfl 2 (by decide) fl115 (fun _ h9 => h9) rfl dX7_readChoice_114 ?_
            refine lv_iload hx hb dX7_readChoice_117 (lv_at hl 0 rfl) ?_
            refine lv_aload_n hx hb dX7_readChoice_119 rfl (lv_at hl 3 rfl) ?_
            refine va_get (D := (dC, dI)) (ci := 7) (v := .ref hp) (C := RX7) (T := TX7) (N := 5) hx hb hts iw_X7_readChoice_X7 hown hK.1 hP 0 rfl rfl 4 (by decide) fl21 (fun _ h9 => h9) rfl dX7_readChoice_120 ?_
            refine va_get (D := (dC, dI)) (ci := 6) (v := .int (u12.2.2 3 0)) (C := RX6) (T := TX6) (N := 10) hx hb hts iw_X7_readChoice_X6 hown hK.1 hP 3 rfl rfl 3 (by decide) fl118 (fun _ h9 => h9) rfl dX7_readChoice_123 ?_
            have g0 := ql_in (ql_gt hf)
            have hf := ql_gx hf
            refine va_iast (f := (u12.2.2 2)) hx hb hK.1 hP hD hS 6 0 rfl rfl g0 dX7_readChoice_126 (fun H locs hP hD hS => ?_)
            refine lv_goto (tgt := 146) hx hb dX7_readChoice_127 (by decide) ?_
            exact w_X7_readChoice_146 C0 N r1 fr lo h1 _ hf _ _ _ hP hD hS (lv_sub hl [3] rfl)
          · have hf := (if_pos c13).symm.trans hf
            refine lv_iconst (v := 0) hx hb dX7_readChoice_108 (by decide) ?_
            exact ql_zret C0 (Or.inl rfl) hf hP hD hS dX7_readChoice_109
      · have hf := (if_pos c8).symm.trans hf
        refine lv_iconst (v := 0) hx hb dX7_readChoice_51 (by decide) ?_
        exact ql_zret C0 (Or.inl rfl) hf hP hD hS dX7_readChoice_52
    · have hf := (if_pos c5).symm.trans hf
      refine lv_iconst (v := 0) hx hb dX7_readChoice_29 (by decide) ?_
      exact ql_zret C0 (Or.inl rfl) hf hP hD hS dX7_readChoice_30
set_option maxRecDepth 100000 in
theorem c_X7_readChoice (l : Launch) (dC : Nat → ClassId) (dI : Nat → Nat → Nat) (h : Nat) (ad : Nat → Nat) (hp : Nat) (pad : Nat → Nat) (cI : ClassId) (N : Nat) (r1 : ql_Y → Int32 → Option (Int32 × ql_Y)) (fr lo : Nat) (h1 : ∀ (z : ql_Y) (x0 : Int32) (res : Int32 × ql_Y), r1 z x0 = some res → ql_Mi l yX7_readStatement wsX7_readStatement { frames := fr, cells := 0, slots := 0, locals := lo } (dC, dI) [(cI, .int)] (ql_rw h ad hp pad cI) [.ref h, .int x0] z res) (z : ql_Y) (x1 : Int32) (res : Int32 × ql_Y) (hf : f_X7_readChoice N r1 z x1 = some res) : ql_Mi l yX7_readChoice wsX7_readChoice (rm_X7_readChoice fr lo) (dC, dI) [(cI, .int)] (ql_rw h ad hp pad cI) [.ref h, .int x1] z res :=
  ql_start_i (by decide) rfl (Nat.le_of_ble_eq_true rfl) (fun p e s m below meth c A ls C0 hl hP hD hS => w_X7_readChoice_0 C0 N r1 fr lo h1 z x1 hf s.heap [] ls hP hD hS (lv_sub (show lv_has ls 5 [(0, .ref h), (1, .int x1)] from hl) [0, 1] rfl))
/-! ===== TestedLoops$Reader.readLoop(I)Z ===== -/
abbrev rm_X7_readLoop (fr lo : Nat) : Room := { frames := fr + 32, cells := 0, slots := 0, locals := lo + 726 }
theorem iw_X7_readLoop_X7 : ∀ w ∈ wsX70, w ∈ wsX7_readLoop := fun w h => List.mem_cons_of_mem _ (List.mem_append_left _ (List.mem_append_right _ h))
theorem iw_X7_readLoop_X6 : ∀ w ∈ wsX60, w ∈ wsX7_readLoop := fun w h => List.mem_cons_of_mem _ (List.mem_append_right _ h)
theorem qv_X7_readLoop : yX7_readLoop.cls = RX7 ∧ yX7_readLoop.cls ≠ "java/lang/invoke/MethodHandle" ∧ yX7_readLoop.cls ≠ "java/lang/invoke/VarHandle" ∧ (parseMethodDescriptor yX7_readLoop.desc).map (fun d => d.parameters.length) = some 1 := by decide +kernel
def f_X7_readLoop_0 (N : Nat) (r1 : ql_Y → Int32 → Option (Int32 × ql_Y)) (z : ql_Y) (x1 : Int32) : Option (Int32 × ql_Y) := (f_X7_readTestC N ((ql_up z.1 2 (fun _ => ((z.1 2 0) + 1))), z.2) x1).bind fun u1 => if u1.1 = (-1) then some (0, u1.2) else (f_X7_take N u1.2 7).bind fun u3 => if u3.1 = 0 then some (0, u3.2) else (f_X6_add N u3.2.2 3 u1.1 (-9)).bind fun u5 => (f_X7_readStatements N r1 (u3.2.1, u5.2) x1).bind fun u6 => if u6.1 = 0 then some (0, u6.2) else (f_X6_add N u6.2.2 5 0 u5.1).bind fun u8 => if ql_ib u5.1 300 = true then (f_X7_take N (u6.2.1, (ql_up u8.2 2 (upd (u8.2 2) u5.1.toNatClampNeg (u8.2 3 0)))) 8).bind fun u9 => if ql_bz u9.1 = true then some (u9.1, u9.2) else none else none
def f_X7_readLoop (N : Nat) (r1 : ql_Y → Int32 → Option (Int32 × ql_Y)) (z : ql_Y) (x1 : Int32) : Option (Int32 × ql_Y) := f_X7_readLoop_0 N r1 z x1
set_option maxHeartbeats 4000000 in
set_option maxRecDepth 100000 in
theorem w_X7_readLoop_0 {p : Program} {l : Launch} {e : Env} {s : State} {m : MethodId} {args : Array Value} {below : List Frame} {meth : Method} {c : Code} {dC : Nat → ClassId} {dI : Nat → Nat → Nat} {A : Nat → Prop} {h : Nat} {ad : Nat → Nat} {hp : Nat} {pad : Nat → Nat} {cI : ClassId} {res : Int32 × ql_Y} (C0 : ql_C p s m args meth c cX7_readLoop 4 (some .boolean) wsX7_readLoop RX7 (dC, dI) [(cI, .int)] A) (N : Nat) (r1 : ql_Y → Int32 → Option (Int32 × ql_Y)) (fr lo : Nat) (h1 : ∀ (z : ql_Y) (x0 : Int32) (res : Int32 × ql_Y), r1 z x0 = some res → ql_Mi l yX7_readStatement wsX7_readStatement { frames := fr, cells := 0, slots := 0, locals := lo } (dC, dI) [(cI, .int)] (ql_rw h ad hp pad cI) [.ref h, .int x0] z res) : ∀ (z : ql_Y) (x1 : Int32), f_X7_readLoop_0 N r1 z x1 = some res → ∀ (H : Heap) (locs : List Loc) (ls : Array Slot), va_P (dC, dI) vwCl ((ql_rw h ad hp pad cI) z) H → va_D A ((ql_rw h ad hp pad cI) z) → va_S A s.heap H locs → lv_has ls 4 [(0, .ref h), (1, .int x1)] → W p l e (rm_X7_readLoop fr lo) s m args below meth c H locs 0 0 (ql_Qi below (dC, dI) (ql_rw h ad hp pad cI) A args s res) (F0 m 0 ls []) := by
  have C0q := C0
  obtain ⟨hx, hb, hr, hml, hown, hts, hlocks, hK, hA⟩ := C0q
  have fl38 := hts (Cond.fieldLink RX7 38 "TestedLoops$Reader" "now" "I") (by decide +kernel)
  have fl21 := hts (Cond.fieldLink RX7 21 "TestedLoops$Reader" "plan" "LTestedLoops$Plan;") (by decide +kernel)
  have fl115 := hts (Cond.fieldLink RX7 115 "TestedLoops$Plan" "to" "[I") (by decide +kernel)
  have fl118 := hts (Cond.fieldLink RX7 118 "TestedLoops$Plan" "steps" "I") (by decide +kernel)
  intro z x1 hf H locs ls hP hD hS hl
  unfold f_X7_readLoop_0 at hf
  refine lv_aload_n hx hb dX7_readLoop_0 rfl (lv_at hl 0 rfl) ?_
  refine lv_dup hx hb dX7_readLoop_1 rfl ?_
  refine va_get (D := (dC, dI)) (ci := 7) (v := .int (z.1 2 0)) (C := RX7) (T := TX7) (N := 5) hx hb hts iw_X7_readLoop_X7 hown hK.1 hP 0 rfl rfl 2 (by decide) fl38 (fun _ h9 => h9) rfl dX7_readLoop_2 ?_
  refine lv_iconst (v := 1) hx hb dX7_readLoop_5 (by decide) ?_
  refine lv_iadd hx hb dX7_readLoop_6 ?_
  refine va_put (D := (dC, dI)) (ci := 7) (v := .int ((z.1 2 0) + 1)) (ty := .int) (C := RX7) (T := TX7) (N := 5) hx hb hts iw_X7_readLoop_X7 tyX7 tyX7_ok nmX7 hown hK.1 hP hD hS 0 rfl rfl 2 (by decide) fl38 (fun _ h9 => h9) rfl (by decide +kernel) rfl rfl (Nat.le_of_ble_eq_true rfl) dX7_readLoop_7 (fun H locs hP hD hS => ?_)
  refine lv_aload_n hx hb dX7_readLoop_10 rfl (lv_at hl 0 rfl) ?_
  refine lv_iload_n hx hb dX7_readLoop_11 rfl (lv_at hl 1 rfl) ?_
  obtain ⟨u1, hu1, hf⟩ := ql_bd hf
  refine ql_callVi (As := [.int x1]) (rest := []) C0 (c_X7_readTestC l dC dI h ad hp pad cI N ((ql_up z.1 2 (fun _ => ((z.1 2 0) + 1))), z.2) x1 u1 hu1) (cwV 1 hts gX7_readLoop_X7_readTest rfl rfl rfl qv_X7_readTest ⟨by show 31 + 1 ≤ fr + 32; omega, by show 8 + (6 + 11) + (701) ≤ lo + 726; omega⟩) (va_recv hK.1 hP (ci := 7) (q0 := 0) rfl rfl) hP hD hS hl.1 rfl rfl (Nat.le_of_ble_eq_true rfl) dX7_readLoop_12 (fun H locs hP hD hS => ?_)
  refine lv_istore_n (lv' := [(2, .int u1.1), (0, .ref h), (1, .int x1)]) hx hb dX7_readLoop_15 rfl hl (by decide) rfl (fun ls hl => ?_)
  refine lv_iload_n hx hb dX7_readLoop_16 rfl (lv_at hl 0 rfl) ?_
  refine lv_iconst (v := (-1)) hx hb dX7_readLoop_17 (by decide) ?_
  refine lv_icmp_eq (tgt := 30) hx hb dX7_readLoop_18 (by decide) (fun c2 => ?_) (fun c2 => ?_)
  · have hf := (if_pos c2).symm.trans hf
    refine lv_iconst (v := 0) hx hb dX7_readLoop_30 (by decide) ?_
    exact ql_zret C0 (Or.inl rfl) hf hP hD hS dX7_readLoop_31
  · have hf := (if_neg c2).symm.trans hf
    refine lv_aload_n hx hb dX7_readLoop_21 rfl (lv_at hl 1 rfl) ?_
    refine lv_bipush (v := 7) hx hb dX7_readLoop_22 (by decide) ?_
    obtain ⟨u3, hu3, hf⟩ := ql_bd hf
    refine ql_callVi (As := [.int 7]) (rest := []) C0 (c_X7_take l dC dI h ad hp pad cI N u1.2 7 u3 hu3) (cwV 1 hts gX7_readLoop_X7_take rfl rfl rfl qv_X7_take ⟨by show 1 + 1 ≤ fr + 32; omega, by show 8 + (2 + 11) + (20) ≤ lo + 726; omega⟩) (va_recv hK.1 hP (ci := 7) (q0 := 0) rfl rfl) hP hD hS hl.1 rfl rfl (Nat.le_of_ble_eq_true rfl) dX7_readLoop_24 (fun H locs hP hD hS => ?_)
    refine lv_if_ne (tgt := 32) hx hb dX7_readLoop_27 (by decide) (fun c4 => ?_) (fun c4 => ?_)
    · have hf := (if_neg c4).symm.trans hf
      refine lv_aload_n hx hb dX7_readLoop_32 rfl (lv_at hl 1 rfl) ?_
      refine va_get (D := (dC, dI)) (ci := 7) (v := .ref hp) (C := RX7) (T := TX7) (N := 5) hx hb hts iw_X7_readLoop_X7 hown hK.1 hP 0 rfl rfl 4 (by decide) fl21 (fun _ h9 => h9) rfl dX7_readLoop_33 ?_
      refine lv_iconst (v := 3) hx hb dX7_readLoop_36 (by decide) ?_
      refine lv_iload_n hx hb dX7_readLoop_37 rfl (lv_at hl 0 rfl) ?_
      refine lv_bipush (v := (-9)) hx hb dX7_readLoop_38 (by decide) ?_
      obtain ⟨u5, hu5, hf⟩ := ql_bd hf
      refine ql_subVi (wr := ql_rc h ad hp cI u3.2.1) (As := [.int 3, .int u1.1, .int (-9)]) (rest := []) C0 (c_X6_add l dC dI hp pad cI N u3.2.2 3 u1.1 (-9) u5 hu5) (cwV 3 hts gX7_readLoop_X6_add rfl rfl rfl qv_X6_add ⟨by show 1 + 1 ≤ fr + 32; omega, by show 8 + (5 + 11) + (21) ≤ lo + 726; omega⟩) (hK.sub [0] rfl) [3, 4, 5, 6, 7, 8, 9, 10] [0, 1, 2] rfl rfl rfl rfl (by decide) (va_recv hK.1 hP (ci := 6) (q0 := 3) rfl rfl) hP hD hS hl.1 rfl rfl (Nat.le_of_ble_eq_true rfl) dX7_readLoop_40 (fun H locs hP hD hS => ?_)
      have hP : va_P (dC, dI) vwCl ((ql_rw h ad hp pad cI) (u3.2.1, u5.2)) _ := hP
      have hD : va_D A ((ql_rw h ad hp pad cI) (u3.2.1, u5.2)) := hD
      refine lv_istore_n (lv' := [(3, .int u5.1), (2, .int u1.1), (0, .ref h), (1, .int x1)]) hx hb dX7_readLoop_43 rfl hl (by decide) rfl (fun ls hl => ?_)
      refine lv_aload_n hx hb dX7_readLoop_44 rfl (lv_at hl 2 rfl) ?_
      refine lv_iload_n hx hb dX7_readLoop_45 rfl (lv_at hl 3 rfl) ?_
      obtain ⟨u6, hu6, hf⟩ := ql_bd hf
      refine ql_callVi (As := [.int x1]) (rest := []) C0 (c_X7_readStatements l dC dI h ad hp pad cI N r1 fr lo h1 (u3.2.1, u5.2) x1 u6 hu6) (cwV 1 hts gX7_readLoop_X7_readStatements rfl rfl rfl qv_X7_readStatements ⟨by show fr + 1 + 1 ≤ fr + 32; omega, by show 8 + (4 + 11) + (lo + 21) ≤ lo + 726; omega⟩) (va_recv hK.1 hP (ci := 7) (q0 := 0) rfl rfl) hP hD hS hl.1 rfl rfl (Nat.le_of_ble_eq_true rfl) dX7_readLoop_46 (fun H locs hP hD hS => ?_)
      refine lv_if_ne (tgt := 54) hx hb dX7_readLoop_49 (by decide) (fun c7 => ?_) (fun c7 => ?_)
      · have hf := (if_neg c7).symm.trans hf
        refine lv_aload_n hx hb dX7_readLoop_54 rfl (lv_at hl 2 rfl) ?_
        refine va_get (D := (dC, dI)) (ci := 7) (v := .ref hp) (C := RX7) (T := TX7) (N := 5) hx hb hts iw_X7_readLoop_X7 hown hK.1 hP 0 rfl rfl 4 (by decide) fl21 (fun _ h9 => h9) rfl dX7_readLoop_55 ?_
        refine lv_iconst (v := 5) hx hb dX7_readLoop_58 (by decide) ?_
        refine lv_iconst (v := 0) hx hb dX7_readLoop_59 (by decide) ?_
        refine lv_iload_n hx hb dX7_readLoop_60 rfl (lv_at hl 0 rfl) ?_
        obtain ⟨u8, hu8, hf⟩ := ql_bd hf
        refine ql_subVi (wr := ql_rc h ad hp cI u6.2.1) (As := [.int 5, .int 0, .int u5.1]) (rest := []) C0 (c_X6_add l dC dI hp pad cI N u6.2.2 5 0 u5.1 u8 hu8) (cwV 3 hts gX7_readLoop_X6_add rfl rfl rfl qv_X6_add ⟨by show 1 + 1 ≤ fr + 32; omega, by show 8 + (5 + 11) + (21) ≤ lo + 726; omega⟩) (hK.sub [0] rfl) [3, 4, 5, 6, 7, 8, 9, 10] [0, 1, 2] rfl rfl rfl rfl (by decide) (va_recv hK.1 hP (ci := 6) (q0 := 3) rfl rfl) hP hD hS hl.1 rfl rfl (Nat.le_of_ble_eq_true rfl) dX7_readLoop_61 (fun H locs hP hD hS => ?_)
        have hP : va_P (dC, dI) vwCl ((ql_rw h ad hp pad cI) (u6.2.1, u8.2)) _ := hP
        have hD : va_D A ((ql_rw h ad hp pad cI) (u6.2.1, u8.2)) := hD
        refine lv_pop hx hb dX7_readLoop_64 rfl ?_
        refine lv_aload_n hx hb dX7_readLoop_65 rfl (lv_at hl 2 rfl) ?_
        refine va_get (D := (dC, dI)) (ci := 7) (v := .ref hp) (C := RX7) (T := TX7) (N := 5) hx hb hts iw_X7_readLoop_X7 hown hK.1 hP 0 rfl rfl 4 (by decide) fl21 (fun _ h9 => h9) rfl dX7_readLoop_66 ?_
        refine va_get (D := (dC, dI)) (ci := 6) (v := .ref (pad 2)) (C := RX6) (T := TX6) (N := 10) hx hb hts iw_X7_readLoop_X6 hown hK.1 hP 3 rfl rfl 2 (by decide) fl115 (fun _ h9 => h9) rfl dX7_readLoop_69 ?_
        refine lv_iload_n hx hb dX7_readLoop_72 rfl (lv_at hl 0 rfl) ?_
        refine lv_aload_n hx hb dX7_readLoop_73 rfl (lv_at hl 2 rfl) ?_
        refine va_get (D := (dC, dI)) (ci := 7) (v := .ref hp) (C := RX7) (T := TX7) (N := 5) hx hb hts iw_X7_readLoop_X7 hown hK.1 hP 0 rfl rfl 4 (by decide) fl21 (fun _ h9 => h9) rfl dX7_readLoop_74 ?_
        refine va_get (D := (dC, dI)) (ci := 6) (v := .int (u8.2 3 0)) (C := RX6) (T := TX6) (N := 10) hx hb hts iw_X7_readLoop_X6 hown hK.1 hP 3 rfl rfl 3 (by decide) fl118 (fun _ h9 => h9) rfl dX7_readLoop_77 ?_
        have g0 := ql_in (ql_gt hf)
        have hf := ql_gx hf
        refine va_iast (f := (u8.2 2)) hx hb hK.1 hP hD hS 6 0 rfl rfl g0 dX7_readLoop_80 (fun H locs hP hD hS => ?_)
        refine lv_aload_n hx hb dX7_readLoop_81 rfl (lv_at hl 2 rfl) ?_
        refine lv_bipush (v := 8) hx hb dX7_readLoop_82 (by decide) ?_
        obtain ⟨u9, hu9, hf⟩ := ql_bd hf
        refine ql_callVi (As := [.int 8]) (rest := []) C0 (c_X7_take l dC dI h ad hp pad cI N (u6.2.1, (ql_up u8.2 2 (upd (u8.2 2) u5.1.toNatClampNeg (u8.2 3 0)))) 8 u9 hu9) (cwV 1 hts gX7_readLoop_X7_take rfl rfl rfl qv_X7_take ⟨by show 1 + 1 ≤ fr + 32; omega, by show 8 + (2 + 11) + (20) ≤ lo + 726; omega⟩) (va_recv hK.1 hP (ci := 7) (q0 := 0) rfl rfl) hP hD hS hl.1 rfl rfl (Nat.le_of_ble_eq_true rfl) dX7_readLoop_84 (fun H locs hP hD hS => ?_)
        exact ql_zret C0 (ql_bzo (ql_gt hf)) (ql_gx hf) hP hD hS dX7_readLoop_87
      · have hf := (if_pos c7).symm.trans hf
        refine lv_iconst (v := 0) hx hb dX7_readLoop_52 (by decide) ?_
        exact ql_zret C0 (Or.inl rfl) hf hP hD hS dX7_readLoop_53
    · have hf := (if_pos c4).symm.trans hf
      refine lv_iconst (v := 0) hx hb dX7_readLoop_30 (by decide) ?_
      exact ql_zret C0 (Or.inl rfl) hf hP hD hS dX7_readLoop_31
set_option maxRecDepth 100000 in
theorem c_X7_readLoop (l : Launch) (dC : Nat → ClassId) (dI : Nat → Nat → Nat) (h : Nat) (ad : Nat → Nat) (hp : Nat) (pad : Nat → Nat) (cI : ClassId) (N : Nat) (r1 : ql_Y → Int32 → Option (Int32 × ql_Y)) (fr lo : Nat) (h1 : ∀ (z : ql_Y) (x0 : Int32) (res : Int32 × ql_Y), r1 z x0 = some res → ql_Mi l yX7_readStatement wsX7_readStatement { frames := fr, cells := 0, slots := 0, locals := lo } (dC, dI) [(cI, .int)] (ql_rw h ad hp pad cI) [.ref h, .int x0] z res) (z : ql_Y) (x1 : Int32) (res : Int32 × ql_Y) (hf : f_X7_readLoop N r1 z x1 = some res) : ql_Mi l yX7_readLoop wsX7_readLoop (rm_X7_readLoop fr lo) (dC, dI) [(cI, .int)] (ql_rw h ad hp pad cI) [.ref h, .int x1] z res :=
  ql_start_i (by decide) rfl (Nat.le_of_ble_eq_true rfl) (fun p e s m below meth c A ls C0 hl hP hD hS => w_X7_readLoop_0 C0 N r1 fr lo h1 z x1 hf s.heap [] ls hP hD hS (lv_sub (show lv_has ls 4 [(0, .ref h), (1, .int x1)] from hl) [0, 1] rfl))
/-! ===== TestedLoops$Reader.readStatement(I)Z ===== -/
abbrev rm_X7_readStatement (fr lo : Nat) : Room := { frames := fr + 33, cells := 0, slots := 0, locals := lo + 750 }
theorem iw_X7_readStatement_X7 : ∀ w ∈ wsX70, w ∈ wsX7_readStatement := fun w h => List.mem_cons_of_mem _ (List.mem_append_left _ (List.mem_append_right _ h))
theorem iw_X7_readStatement_X6 : ∀ w ∈ wsX60, w ∈ wsX7_readStatement := fun w h => List.mem_cons_of_mem _ (List.mem_append_right _ h)
def f_X7_readStatement_200 (N : Nat) (r1 : ql_Y → Int32 → Option (Int32 × ql_Y)) (z : ql_Y) : Option (Int32 × ql_Y) := (f_X7_refuse N z).bind fun u1 => if ql_bz u1.1 = true then some (u1.1, u1.2) else none
def f_X7_readStatement_117 (N : Nat) (r1 : ql_Y → Int32 → Option (Int32 × ql_Y)) (z : ql_Y) : Option (Int32 × ql_Y) := (f_X7_token N z).bind fun u2 => (f_X6_addPlace N z.2 ((u2 - 12) + 1)).bind fun u3 => if u3.1 = 0 then (f_X7_refuse N (z.1, u3.2)).bind fun u5 => if ql_bz u5.1 = true then some (u5.1, u5.2) else none else (f_X7_token N (z.1, u3.2)).bind fun u6 => (f_X7_take N (z.1, u3.2) u6).bind fun u7 => if ql_bz u7.1 = true then some (u7.1, u7.2) else none
def f_X7_readStatement_0 (N : Nat) (r1 : ql_Y → Int32 → Option (Int32 × ql_Y)) (z : ql_Y) (x1 : Int32) : Option (Int32 × ql_Y) := (f_X7_token N z).bind fun u8 => if u8 = 0 then (f_X6_add N z.2 0 15 (-9)).bind fun u10 => (f_X7_take N (z.1, u10.2) 0).bind fun u11 => if ql_bz u11.1 = true then some (u11.1, u11.2) else none else if u8 = 1 then (f_X6_add N z.2 0 0 (-9)).bind fun u13 => (f_X7_take N (z.1, u13.2) 1).bind fun u14 => if ql_bz u14.1 = true then some (u14.1, u14.2) else none else if u8 = 2 then if 8 ≤ x1 then (f_X7_refuse N z).bind fun u17 => if ql_bz u17.1 = true then some (u17.1, u17.2) else none else (f_X7_readChoice N r1 z (x1 + 1)).bind fun u18 => if ql_bz u18.1 = true then some (u18.1, u18.2) else none else if u8 = 3 then f_X7_readStatement_200 N r1 z else if u8 = 4 then f_X7_readStatement_200 N r1 z else if u8 = 5 then f_X7_readStatement_200 N r1 z else if u8 = 6 then if 8 ≤ x1 then (f_X7_refuse N z).bind fun u24 => if ql_bz u24.1 = true then some (u24.1, u24.2) else none else (f_X7_readLoop N r1 z (x1 + 1)).bind fun u25 => if ql_bz u25.1 = true then some (u25.1, u25.2) else none else if u8 = 7 then f_X7_readStatement_200 N r1 z else if u8 = 8 then f_X7_readStatement_200 N r1 z else if u8 = 9 then (f_X7_readWant N z x1).bind fun u29 => if ql_bz u29.1 = true then some (u29.1, u29.2) else none else if u8 = 10 then f_X7_readStatement_200 N r1 z else if u8 = 11 then f_X7_readStatement_200 N r1 z else if u8 = 12 then f_X7_readStatement_117 N r1 z else if u8 = 13 then f_X7_readStatement_117 N r1 z else if u8 = 14 then f_X7_readStatement_117 N r1 z else f_X7_readStatement_200 N r1 z
def f_X7_readStatementP (N : Nat) (r1 : ql_Y → Int32 → Option (Int32 × ql_Y)) (z : ql_Y) (x1 : Int32) : Option (Int32 × ql_Y) := f_X7_readStatement_0 N r1 z x1
set_option maxHeartbeats 4000000 in
set_option maxRecDepth 100000 in
theorem w_X7_readStatement_200 {p : Program} {l : Launch} {e : Env} {s : State} {m : MethodId} {args : Array Value} {below : List Frame} {meth : Method} {c : Code} {dC : Nat → ClassId} {dI : Nat → Nat → Nat} {A : Nat → Prop} {h : Nat} {ad : Nat → Nat} {hp : Nat} {pad : Nat → Nat} {cI : ClassId} {res : Int32 × ql_Y} (C0 : ql_C p s m args meth c cX7_readStatement 2 (some .boolean) wsX7_readStatement RX7 (dC, dI) [(cI, .int)] A) (N : Nat) (r1 : ql_Y → Int32 → Option (Int32 × ql_Y)) (fr lo : Nat) (h1 : ∀ (z : ql_Y) (x0 : Int32) (res : Int32 × ql_Y), r1 z x0 = some res → ql_Mi l yX7_readStatement wsX7_readStatement { frames := fr, cells := 0, slots := 0, locals := lo } (dC, dI) [(cI, .int)] (ql_rw h ad hp pad cI) [.ref h, .int x0] z res) : ∀ (z : ql_Y), f_X7_readStatement_200 N r1 z = some res → ∀ (H : Heap) (locs : List Loc) (ls : Array Slot), va_P (dC, dI) vwCl ((ql_rw h ad hp pad cI) z) H → va_D A ((ql_rw h ad hp pad cI) z) → va_S A s.heap H locs → lv_has ls 2 [(0, .ref h)] → W p l e (rm_X7_readStatement fr lo) s m args below meth c H locs 0 0 (ql_Qi below (dC, dI) (ql_rw h ad hp pad cI) A args s res) (F0 m 200 ls []) := by
  have C0q := C0
  obtain ⟨hx, hb, hr, hml, hown, hts, hlocks, hK, hA⟩ := C0q
  intro z hf H locs ls hP hD hS hl
  unfold f_X7_readStatement_200 at hf
  refine lv_aload_n hx hb dX7_readStatement_200 rfl (lv_at hl 0 rfl) ?_
  obtain ⟨u1, hu1, hf⟩ := ql_bd hf
  refine ql_callVi (As := []) (rest := []) C0 (c_X7_refuse l dC dI h ad hp pad cI N z u1 hu1) (cwV 0 hts gX7_readStatement_X7_refuse rfl rfl rfl qv_X7_refuse ⟨by show 0 + 1 ≤ fr + 33; omega, by show 8 + (1 + 11) + (0) ≤ lo + 750; omega⟩) (va_recv hK.1 hP (ci := 7) (q0 := 0) rfl rfl) hP hD hS hl.1 rfl rfl (Nat.le_of_ble_eq_true rfl) dX7_readStatement_201 (fun H locs hP hD hS => ?_)
  exact ql_zret C0 (ql_bzo (ql_gt hf)) (ql_gx hf) hP hD hS dX7_readStatement_204
set_option maxHeartbeats 4000000 in
set_option maxRecDepth 100000 in
theorem w_X7_readStatement_117 {p : Program} {l : Launch} {e : Env} {s : State} {m : MethodId} {args : Array Value} {below : List Frame} {meth : Method} {c : Code} {dC : Nat → ClassId} {dI : Nat → Nat → Nat} {A : Nat → Prop} {h : Nat} {ad : Nat → Nat} {hp : Nat} {pad : Nat → Nat} {cI : ClassId} {res : Int32 × ql_Y} (C0 : ql_C p s m args meth c cX7_readStatement 2 (some .boolean) wsX7_readStatement RX7 (dC, dI) [(cI, .int)] A) (N : Nat) (r1 : ql_Y → Int32 → Option (Int32 × ql_Y)) (fr lo : Nat) (h1 : ∀ (z : ql_Y) (x0 : Int32) (res : Int32 × ql_Y), r1 z x0 = some res → ql_Mi l yX7_readStatement wsX7_readStatement { frames := fr, cells := 0, slots := 0, locals := lo } (dC, dI) [(cI, .int)] (ql_rw h ad hp pad cI) [.ref h, .int x0] z res) : ∀ (z : ql_Y), f_X7_readStatement_117 N r1 z = some res → ∀ (H : Heap) (locs : List Loc) (ls : Array Slot), va_P (dC, dI) vwCl ((ql_rw h ad hp pad cI) z) H → va_D A ((ql_rw h ad hp pad cI) z) → va_S A s.heap H locs → lv_has ls 2 [(0, .ref h)] → W p l e (rm_X7_readStatement fr lo) s m args below meth c H locs 0 0 (ql_Qi below (dC, dI) (ql_rw h ad hp pad cI) A args s res) (F0 m 117 ls []) := by
  have C0q := C0
  obtain ⟨hx, hb, hr, hml, hown, hts, hlocks, hK, hA⟩ := C0q
  have fl21 := hts (Cond.fieldLink RX7 21 "TestedLoops$Reader" "plan" "LTestedLoops$Plan;") (by decide +kernel)
  intro z hf H locs ls hP hD hS hl
  unfold f_X7_readStatement_117 at hf
  refine lv_aload_n hx hb dX7_readStatement_117 rfl (lv_at hl 0 rfl) ?_
  refine va_get (D := (dC, dI)) (ci := 7) (v := .ref hp) (C := RX7) (T := TX7) (N := 5) hx hb hts iw_X7_readStatement_X7 hown hK.1 hP 0 rfl rfl 4 (by decide) fl21 (fun _ h9 => h9) rfl dX7_readStatement_118 ?_
  refine lv_aload_n hx hb dX7_readStatement_121 rfl (lv_at hl 0 rfl) ?_
  obtain ⟨u2, hu2, hf⟩ := ql_bd hf
  refine ql_callRVi (As := []) (rest := [.ref hp]) C0 (c_X7_token l dC dI h ad hp pad cI N z u2 hu2) (cwV 0 hts gX7_readStatement_X7_token rfl rfl rfl qv_X7_token ⟨by show 0 + 1 ≤ fr + 33; omega, by show 8 + (1 + 11) + (0) ≤ lo + 750; omega⟩) (va_recv hK.1 hP (ci := 7) (q0 := 0) rfl rfl) hK hP hS hl.1 rfl rfl (Nat.le_of_ble_eq_true rfl) dX7_readStatement_122 (fun H1 locs hk hS => ?_)
  have hP := ql_keep hP hk
  refine lv_bipush (v := 12) hx hb dX7_readStatement_125 (by decide) ?_
  refine lv_isub hx hb dX7_readStatement_127 ?_
  refine lv_iconst (v := 1) hx hb dX7_readStatement_128 (by decide) ?_
  refine lv_iadd hx hb dX7_readStatement_129 ?_
  obtain ⟨u3, hu3, hf⟩ := ql_bd hf
  refine ql_subVi (wr := ql_rc h ad hp cI z.1) (As := [.int ((u2 - 12) + 1)]) (rest := []) C0 (c_X6_addPlace l dC dI hp pad cI N z.2 ((u2 - 12) + 1) u3 hu3) (cwV 1 hts gX7_readStatement_X6_addPlace rfl rfl rfl qv_X6_addPlace ⟨by show 2 + 1 ≤ fr + 33; omega, by show 8 + (2 + 11) + (45) ≤ lo + 750; omega⟩) (hK.sub [0] rfl) [3, 4, 5, 6, 7, 8, 9, 10] [0, 1, 2] rfl rfl rfl rfl (by decide) (va_recv hK.1 hP (ci := 6) (q0 := 3) rfl rfl) hP hD hS hl.1 rfl rfl (Nat.le_of_ble_eq_true rfl) dX7_readStatement_130 (fun H locs hP hD hS => ?_)
  have hP : va_P (dC, dI) vwCl ((ql_rw h ad hp pad cI) (z.1, u3.2)) _ := hP
  have hD : va_D A ((ql_rw h ad hp pad cI) (z.1, u3.2)) := hD
  refine lv_if_eq (tgt := 147) hx hb dX7_readStatement_133 (by decide) (fun c4 => ?_) (fun c4 => ?_)
  · have hf := (if_pos c4).symm.trans hf
    refine lv_aload_n hx hb dX7_readStatement_147 rfl (lv_at hl 0 rfl) ?_
    obtain ⟨u5, hu5, hf⟩ := ql_bd hf
    refine ql_callVi (As := []) (rest := []) C0 (c_X7_refuse l dC dI h ad hp pad cI N (z.1, u3.2) u5 hu5) (cwV 0 hts gX7_readStatement_X7_refuse rfl rfl rfl qv_X7_refuse ⟨by show 0 + 1 ≤ fr + 33; omega, by show 8 + (1 + 11) + (0) ≤ lo + 750; omega⟩) (va_recv hK.1 hP (ci := 7) (q0 := 0) rfl rfl) hP hD hS hl.1 rfl rfl (Nat.le_of_ble_eq_true rfl) dX7_readStatement_148 (fun H locs hP hD hS => ?_)
    exact ql_zret C0 (ql_bzo (ql_gt hf)) (ql_gx hf) hP hD hS dX7_readStatement_151
  · have hf := (if_neg c4).symm.trans hf
    refine lv_aload_n hx hb dX7_readStatement_136 rfl (lv_at hl 0 rfl) ?_
    refine lv_aload_n hx hb dX7_readStatement_137 rfl (lv_at hl 0 rfl) ?_
    obtain ⟨u6, hu6, hf⟩ := ql_bd hf
    refine ql_callRVi (As := []) (rest := [.ref h]) C0 (c_X7_token l dC dI h ad hp pad cI N (z.1, u3.2) u6 hu6) (cwV 0 hts gX7_readStatement_X7_token rfl rfl rfl qv_X7_token ⟨by show 0 + 1 ≤ fr + 33; omega, by show 8 + (1 + 11) + (0) ≤ lo + 750; omega⟩) (va_recv hK.1 hP (ci := 7) (q0 := 0) rfl rfl) hK hP hS hl.1 rfl rfl (Nat.le_of_ble_eq_true rfl) dX7_readStatement_138 (fun H1 locs hk hS => ?_)
    have hP := ql_keep hP hk
    obtain ⟨u7, hu7, hf⟩ := ql_bd hf
    refine ql_callVi (As := [.int u6]) (rest := []) C0 (c_X7_take l dC dI h ad hp pad cI N (z.1, u3.2) u6 u7 hu7) (cwV 1 hts gX7_readStatement_X7_take rfl rfl rfl qv_X7_take ⟨by show 1 + 1 ≤ fr + 33; omega, by show 8 + (2 + 11) + (20) ≤ lo + 750; omega⟩) (va_recv hK.1 hP (ci := 7) (q0 := 0) rfl rfl) hP hD hS hl.1 rfl rfl (Nat.le_of_ble_eq_true rfl) dX7_readStatement_141 (fun H locs hP hD hS => ?_)
    refine lv_goto (tgt := 151) hx hb dX7_readStatement_144 (by decide) ?_
    exact ql_zret C0 (ql_bzo (ql_gt hf)) (ql_gx hf) hP hD hS dX7_readStatement_151
set_option maxHeartbeats 4000000 in
set_option maxRecDepth 100000 in
theorem w_X7_readStatement_0 {p : Program} {l : Launch} {e : Env} {s : State} {m : MethodId} {args : Array Value} {below : List Frame} {meth : Method} {c : Code} {dC : Nat → ClassId} {dI : Nat → Nat → Nat} {A : Nat → Prop} {h : Nat} {ad : Nat → Nat} {hp : Nat} {pad : Nat → Nat} {cI : ClassId} {res : Int32 × ql_Y} (C0 : ql_C p s m args meth c cX7_readStatement 2 (some .boolean) wsX7_readStatement RX7 (dC, dI) [(cI, .int)] A) (N : Nat) (r1 : ql_Y → Int32 → Option (Int32 × ql_Y)) (fr lo : Nat) (h1 : ∀ (z : ql_Y) (x0 : Int32) (res : Int32 × ql_Y), r1 z x0 = some res → ql_Mi l yX7_readStatement wsX7_readStatement { frames := fr, cells := 0, slots := 0, locals := lo } (dC, dI) [(cI, .int)] (ql_rw h ad hp pad cI) [.ref h, .int x0] z res) : ∀ (z : ql_Y) (x1 : Int32), f_X7_readStatement_0 N r1 z x1 = some res → ∀ (H : Heap) (locs : List Loc) (ls : Array Slot), va_P (dC, dI) vwCl ((ql_rw h ad hp pad cI) z) H → va_D A ((ql_rw h ad hp pad cI) z) → va_S A s.heap H locs → lv_has ls 2 [(0, .ref h), (1, .int x1)] → W p l e (rm_X7_readStatement fr lo) s m args below meth c H locs 0 0 (ql_Qi below (dC, dI) (ql_rw h ad hp pad cI) A args s res) (F0 m 0 ls []) := by
  have C0q := C0
  obtain ⟨hx, hb, hr, hml, hown, hts, hlocks, hK, hA⟩ := C0q
  have fl21 := hts (Cond.fieldLink RX7 21 "TestedLoops$Reader" "plan" "LTestedLoops$Plan;") (by decide +kernel)
  intro z x1 hf H locs ls hP hD hS hl
  unfold f_X7_readStatement_0 at hf
  refine lv_aload_n hx hb dX7_readStatement_0 rfl (lv_at hl 0 rfl) ?_
  obtain ⟨u8, hu8, hf⟩ := ql_bd hf
  refine ql_callRVi (As := []) (rest := []) C0 (c_X7_token l dC dI h ad hp pad cI N z u8 hu8) (cwV 0 hts gX7_readStatement_X7_token rfl rfl rfl qv_X7_token ⟨by show 0 + 1 ≤ fr + 33; omega, by show 8 + (1 + 11) + (0) ≤ lo + 750; omega⟩) (va_recv hK.1 hP (ci := 7) (q0 := 0) rfl rfl) hK hP hS hl.1 rfl rfl (Nat.le_of_ble_eq_true rfl) dX7_readStatement_1 (fun H1 locs hk hS => ?_)
  have hP := ql_keep hP hk
  by_cases c9 : u8 = 0
  · have hf := (if_pos c9).symm.trans hf
    refine lv_tableIn (tgt := 80) (off := 76) hx hb dX7_readStatement_4 (by rw [c9]; decide) (by rw [c9]; decide) (by rw [c9]; rfl) (by decide) ?_
    refine lv_aload_n hx hb dX7_readStatement_80 rfl (lv_at hl 0 rfl) ?_
    refine va_get (D := (dC, dI)) (ci := 7) (v := .ref hp) (C := RX7) (T := TX7) (N := 5) hx hb hts iw_X7_readStatement_X7 hown hK.1 hP 0 rfl rfl 4 (by decide) fl21 (fun _ h9 => h9) rfl dX7_readStatement_81 ?_
    refine lv_iconst (v := 0) hx hb dX7_readStatement_84 (by decide) ?_
    refine lv_bipush (v := 15) hx hb dX7_readStatement_85 (by decide) ?_
    refine lv_bipush (v := (-9)) hx hb dX7_readStatement_87 (by decide) ?_
    obtain ⟨u10, hu10, hf⟩ := ql_bd hf
    refine ql_subVi (wr := ql_rc h ad hp cI z.1) (As := [.int 0, .int 15, .int (-9)]) (rest := []) C0 (c_X6_add l dC dI hp pad cI N z.2 0 15 (-9) u10 hu10) (cwV 3 hts gX7_readStatement_X6_add rfl rfl rfl qv_X6_add ⟨by show 1 + 1 ≤ fr + 33; omega, by show 8 + (5 + 11) + (21) ≤ lo + 750; omega⟩) (hK.sub [0] rfl) [3, 4, 5, 6, 7, 8, 9, 10] [0, 1, 2] rfl rfl rfl rfl (by decide) (va_recv hK.1 hP (ci := 6) (q0 := 3) rfl rfl) hP hD hS hl.1 rfl rfl (Nat.le_of_ble_eq_true rfl) dX7_readStatement_89 (fun H locs hP hD hS => ?_)
    have hP : va_P (dC, dI) vwCl ((ql_rw h ad hp pad cI) (z.1, u10.2)) _ := hP
    have hD : va_D A ((ql_rw h ad hp pad cI) (z.1, u10.2)) := hD
    refine lv_pop hx hb dX7_readStatement_92 rfl ?_
    refine lv_aload_n hx hb dX7_readStatement_93 rfl (lv_at hl 0 rfl) ?_
    refine lv_iconst (v := 0) hx hb dX7_readStatement_94 (by decide) ?_
    obtain ⟨u11, hu11, hf⟩ := ql_bd hf
    refine ql_callVi (As := [.int 0]) (rest := []) C0 (c_X7_take l dC dI h ad hp pad cI N (z.1, u10.2) 0 u11 hu11) (cwV 1 hts gX7_readStatement_X7_take rfl rfl rfl qv_X7_take ⟨by show 1 + 1 ≤ fr + 33; omega, by show 8 + (2 + 11) + (20) ≤ lo + 750; omega⟩) (va_recv hK.1 hP (ci := 7) (q0 := 0) rfl rfl) hP hD hS hl.1 rfl rfl (Nat.le_of_ble_eq_true rfl) dX7_readStatement_95 (fun H locs hP hD hS => ?_)
    exact ql_zret C0 (ql_bzo (ql_gt hf)) (ql_gx hf) hP hD hS dX7_readStatement_98
  have hf := (if_neg c9).symm.trans hf
  by_cases c12 : u8 = 1
  · have hf := (if_pos c12).symm.trans hf
    refine lv_tableIn (tgt := 99) (off := 95) hx hb dX7_readStatement_4 (by rw [c12]; decide) (by rw [c12]; decide) (by rw [c12]; rfl) (by decide) ?_
    refine lv_aload_n hx hb dX7_readStatement_99 rfl (lv_at hl 0 rfl) ?_
    refine va_get (D := (dC, dI)) (ci := 7) (v := .ref hp) (C := RX7) (T := TX7) (N := 5) hx hb hts iw_X7_readStatement_X7 hown hK.1 hP 0 rfl rfl 4 (by decide) fl21 (fun _ h9 => h9) rfl dX7_readStatement_100 ?_
    refine lv_iconst (v := 0) hx hb dX7_readStatement_103 (by decide) ?_
    refine lv_iconst (v := 0) hx hb dX7_readStatement_104 (by decide) ?_
    refine lv_bipush (v := (-9)) hx hb dX7_readStatement_105 (by decide) ?_
    obtain ⟨u13, hu13, hf⟩ := ql_bd hf
    refine ql_subVi (wr := ql_rc h ad hp cI z.1) (As := [.int 0, .int 0, .int (-9)]) (rest := []) C0 (c_X6_add l dC dI hp pad cI N z.2 0 0 (-9) u13 hu13) (cwV 3 hts gX7_readStatement_X6_add rfl rfl rfl qv_X6_add ⟨by show 1 + 1 ≤ fr + 33; omega, by show 8 + (5 + 11) + (21) ≤ lo + 750; omega⟩) (hK.sub [0] rfl) [3, 4, 5, 6, 7, 8, 9, 10] [0, 1, 2] rfl rfl rfl rfl (by decide) (va_recv hK.1 hP (ci := 6) (q0 := 3) rfl rfl) hP hD hS hl.1 rfl rfl (Nat.le_of_ble_eq_true rfl) dX7_readStatement_107 (fun H locs hP hD hS => ?_)
    have hP : va_P (dC, dI) vwCl ((ql_rw h ad hp pad cI) (z.1, u13.2)) _ := hP
    have hD : va_D A ((ql_rw h ad hp pad cI) (z.1, u13.2)) := hD
    refine lv_pop hx hb dX7_readStatement_110 rfl ?_
    refine lv_aload_n hx hb dX7_readStatement_111 rfl (lv_at hl 0 rfl) ?_
    refine lv_iconst (v := 1) hx hb dX7_readStatement_112 (by decide) ?_
    obtain ⟨u14, hu14, hf⟩ := ql_bd hf
    refine ql_callVi (As := [.int 1]) (rest := []) C0 (c_X7_take l dC dI h ad hp pad cI N (z.1, u13.2) 1 u14 hu14) (cwV 1 hts gX7_readStatement_X7_take rfl rfl rfl qv_X7_take ⟨by show 1 + 1 ≤ fr + 33; omega, by show 8 + (2 + 11) + (20) ≤ lo + 750; omega⟩) (va_recv hK.1 hP (ci := 7) (q0 := 0) rfl rfl) hP hD hS hl.1 rfl rfl (Nat.le_of_ble_eq_true rfl) dX7_readStatement_113 (fun H locs hP hD hS => ?_)
    exact ql_zret C0 (ql_bzo (ql_gt hf)) (ql_gx hf) hP hD hS dX7_readStatement_116
  have hf := (if_neg c12).symm.trans hf
  by_cases c15 : u8 = 2
  · have hf := (if_pos c15).symm.trans hf
    refine lv_tableIn (tgt := 152) (off := 148) hx hb dX7_readStatement_4 (by rw [c15]; decide) (by rw [c15]; decide) (by rw [c15]; rfl) (by decide) ?_
    refine lv_iload_n hx hb dX7_readStatement_152 rfl (lv_at hl 1 rfl) ?_
    refine lv_bipush (v := 8) hx hb dX7_readStatement_153 (by decide) ?_
    refine lv_icmp_ge (tgt := 168) hx hb dX7_readStatement_155 (by decide) (fun c16 => ?_) (fun c16 => ?_)
    · have hf := (if_pos c16).symm.trans hf
      refine lv_aload_n hx hb dX7_readStatement_168 rfl (lv_at hl 0 rfl) ?_
      obtain ⟨u17, hu17, hf⟩ := ql_bd hf
      refine ql_callVi (As := []) (rest := []) C0 (c_X7_refuse l dC dI h ad hp pad cI N z u17 hu17) (cwV 0 hts gX7_readStatement_X7_refuse rfl rfl rfl qv_X7_refuse ⟨by show 0 + 1 ≤ fr + 33; omega, by show 8 + (1 + 11) + (0) ≤ lo + 750; omega⟩) (va_recv hK.1 hP (ci := 7) (q0 := 0) rfl rfl) hP hD hS hl.1 rfl rfl (Nat.le_of_ble_eq_true rfl) dX7_readStatement_169 (fun H locs hP hD hS => ?_)
      exact ql_zret C0 (ql_bzo (ql_gt hf)) (ql_gx hf) hP hD hS dX7_readStatement_172
    · have hf := (if_neg c16).symm.trans hf
      refine lv_aload_n hx hb dX7_readStatement_158 rfl (lv_at hl 0 rfl) ?_
      refine lv_iload_n hx hb dX7_readStatement_159 rfl (lv_at hl 1 rfl) ?_
      refine lv_iconst (v := 1) hx hb dX7_readStatement_160 (by decide) ?_
      refine lv_iadd hx hb dX7_readStatement_161 ?_
      obtain ⟨u18, hu18, hf⟩ := ql_bd hf
      refine ql_callVi (As := [.int (x1 + 1)]) (rest := []) C0 (c_X7_readChoice l dC dI h ad hp pad cI N r1 fr lo h1 z (x1 + 1) u18 hu18) (cwV 1 hts gX7_readStatement_X7_readChoice rfl rfl rfl qv_X7_readChoice ⟨by show fr + 32 + 1 ≤ fr + 33; omega, by show 8 + (5 + 11) + (lo + 726) ≤ lo + 750; omega⟩) (va_recv hK.1 hP (ci := 7) (q0 := 0) rfl rfl) hP hD hS hl.1 rfl rfl (Nat.le_of_ble_eq_true rfl) dX7_readStatement_162 (fun H locs hP hD hS => ?_)
      refine lv_goto (tgt := 172) hx hb dX7_readStatement_165 (by decide) ?_
      exact ql_zret C0 (ql_bzo (ql_gt hf)) (ql_gx hf) hP hD hS dX7_readStatement_172
  have hf := (if_neg c15).symm.trans hf
  by_cases c19 : u8 = 3
  · have hf := (if_pos c19).symm.trans hf
    refine lv_tableIn (tgt := 200) (off := 196) hx hb dX7_readStatement_4 (by rw [c19]; decide) (by rw [c19]; decide) (by rw [c19]; rfl) (by decide) ?_
    exact w_X7_readStatement_200 C0 N r1 fr lo h1 _ hf _ _ _ hP hD hS (lv_sub hl [0] rfl)
  have hf := (if_neg c19).symm.trans hf
  by_cases c20 : u8 = 4
  · have hf := (if_pos c20).symm.trans hf
    refine lv_tableIn (tgt := 200) (off := 196) hx hb dX7_readStatement_4 (by rw [c20]; decide) (by rw [c20]; decide) (by rw [c20]; rfl) (by decide) ?_
    exact w_X7_readStatement_200 C0 N r1 fr lo h1 _ hf _ _ _ hP hD hS (lv_sub hl [0] rfl)
  have hf := (if_neg c20).symm.trans hf
  by_cases c21 : u8 = 5
  · have hf := (if_pos c21).symm.trans hf
    refine lv_tableIn (tgt := 200) (off := 196) hx hb dX7_readStatement_4 (by rw [c21]; decide) (by rw [c21]; decide) (by rw [c21]; rfl) (by decide) ?_
    exact w_X7_readStatement_200 C0 N r1 fr lo h1 _ hf _ _ _ hP hD hS (lv_sub hl [0] rfl)
  have hf := (if_neg c21).symm.trans hf
  by_cases c22 : u8 = 6
  · have hf := (if_pos c22).symm.trans hf
    refine lv_tableIn (tgt := 173) (off := 169) hx hb dX7_readStatement_4 (by rw [c22]; decide) (by rw [c22]; decide) (by rw [c22]; rfl) (by decide) ?_
    refine lv_iload_n hx hb dX7_readStatement_173 rfl (lv_at hl 1 rfl) ?_
    refine lv_bipush (v := 8) hx hb dX7_readStatement_174 (by decide) ?_
    refine lv_icmp_ge (tgt := 189) hx hb dX7_readStatement_176 (by decide) (fun c23 => ?_) (fun c23 => ?_)
    · have hf := (if_pos c23).symm.trans hf
      refine lv_aload_n hx hb dX7_readStatement_189 rfl (lv_at hl 0 rfl) ?_
      obtain ⟨u24, hu24, hf⟩ := ql_bd hf
      refine ql_callVi (As := []) (rest := []) C0 (c_X7_refuse l dC dI h ad hp pad cI N z u24 hu24) (cwV 0 hts gX7_readStatement_X7_refuse rfl rfl rfl qv_X7_refuse ⟨by show 0 + 1 ≤ fr + 33; omega, by show 8 + (1 + 11) + (0) ≤ lo + 750; omega⟩) (va_recv hK.1 hP (ci := 7) (q0 := 0) rfl rfl) hP hD hS hl.1 rfl rfl (Nat.le_of_ble_eq_true rfl) dX7_readStatement_190 (fun H locs hP hD hS => ?_)
      exact ql_zret C0 (ql_bzo (ql_gt hf)) (ql_gx hf) hP hD hS dX7_readStatement_193
    · have hf := (if_neg c23).symm.trans hf
      refine lv_aload_n hx hb dX7_readStatement_179 rfl (lv_at hl 0 rfl) ?_
      refine lv_iload_n hx hb dX7_readStatement_180 rfl (lv_at hl 1 rfl) ?_
      refine lv_iconst (v := 1) hx hb dX7_readStatement_181 (by decide) ?_
      refine lv_iadd hx hb dX7_readStatement_182 ?_
      obtain ⟨u25, hu25, hf⟩ := ql_bd hf
      refine ql_callVi (As := [.int (x1 + 1)]) (rest := []) C0 (c_X7_readLoop l dC dI h ad hp pad cI N r1 fr lo h1 z (x1 + 1) u25 hu25) (cwV 1 hts gX7_readStatement_X7_readLoop rfl rfl rfl qv_X7_readLoop ⟨by show fr + 32 + 1 ≤ fr + 33; omega, by show 8 + (4 + 11) + (lo + 726) ≤ lo + 750; omega⟩) (va_recv hK.1 hP (ci := 7) (q0 := 0) rfl rfl) hP hD hS hl.1 rfl rfl (Nat.le_of_ble_eq_true rfl) dX7_readStatement_183 (fun H locs hP hD hS => ?_)
      refine lv_goto (tgt := 193) hx hb dX7_readStatement_186 (by decide) ?_
      exact ql_zret C0 (ql_bzo (ql_gt hf)) (ql_gx hf) hP hD hS dX7_readStatement_193
  have hf := (if_neg c22).symm.trans hf
  by_cases c26 : u8 = 7
  · have hf := (if_pos c26).symm.trans hf
    refine lv_tableIn (tgt := 200) (off := 196) hx hb dX7_readStatement_4 (by rw [c26]; decide) (by rw [c26]; decide) (by rw [c26]; rfl) (by decide) ?_
    exact w_X7_readStatement_200 C0 N r1 fr lo h1 _ hf _ _ _ hP hD hS (lv_sub hl [0] rfl)
  have hf := (if_neg c26).symm.trans hf
  by_cases c27 : u8 = 8
  · have hf := (if_pos c27).symm.trans hf
    refine lv_tableIn (tgt := 200) (off := 196) hx hb dX7_readStatement_4 (by rw [c27]; decide) (by rw [c27]; decide) (by rw [c27]; rfl) (by decide) ?_
    exact w_X7_readStatement_200 C0 N r1 fr lo h1 _ hf _ _ _ hP hD hS (lv_sub hl [0] rfl)
  have hf := (if_neg c27).symm.trans hf
  by_cases c28 : u8 = 9
  · have hf := (if_pos c28).symm.trans hf
    refine lv_tableIn (tgt := 194) (off := 190) hx hb dX7_readStatement_4 (by rw [c28]; decide) (by rw [c28]; decide) (by rw [c28]; rfl) (by decide) ?_
    refine lv_aload_n hx hb dX7_readStatement_194 rfl (lv_at hl 0 rfl) ?_
    refine lv_iload_n hx hb dX7_readStatement_195 rfl (lv_at hl 1 rfl) ?_
    obtain ⟨u29, hu29, hf⟩ := ql_bd hf
    refine ql_callVi (As := [.int x1]) (rest := []) C0 (c_X7_readWant l dC dI h ad hp pad cI N z x1 u29 hu29) (cwV 1 hts gX7_readStatement_X7_readWant rfl rfl rfl qv_X7_readWant ⟨by show 32 + 1 ≤ fr + 33; omega, by show 8 + (3 + 11) + (726) ≤ lo + 750; omega⟩) (va_recv hK.1 hP (ci := 7) (q0 := 0) rfl rfl) hP hD hS hl.1 rfl rfl (Nat.le_of_ble_eq_true rfl) dX7_readStatement_196 (fun H locs hP hD hS => ?_)
    exact ql_zret C0 (ql_bzo (ql_gt hf)) (ql_gx hf) hP hD hS dX7_readStatement_199
  have hf := (if_neg c28).symm.trans hf
  by_cases c30 : u8 = 10
  · have hf := (if_pos c30).symm.trans hf
    refine lv_tableIn (tgt := 200) (off := 196) hx hb dX7_readStatement_4 (by rw [c30]; decide) (by rw [c30]; decide) (by rw [c30]; rfl) (by decide) ?_
    exact w_X7_readStatement_200 C0 N r1 fr lo h1 _ hf _ _ _ hP hD hS (lv_sub hl [0] rfl)
  have hf := (if_neg c30).symm.trans hf
  by_cases c31 : u8 = 11
  · have hf := (if_pos c31).symm.trans hf
    refine lv_tableIn (tgt := 200) (off := 196) hx hb dX7_readStatement_4 (by rw [c31]; decide) (by rw [c31]; decide) (by rw [c31]; rfl) (by decide) ?_
    exact w_X7_readStatement_200 C0 N r1 fr lo h1 _ hf _ _ _ hP hD hS (lv_sub hl [0] rfl)
  have hf := (if_neg c31).symm.trans hf
  by_cases c32 : u8 = 12
  · have hf := (if_pos c32).symm.trans hf
    refine lv_tableIn (tgt := 117) (off := 113) hx hb dX7_readStatement_4 (by rw [c32]; decide) (by rw [c32]; decide) (by rw [c32]; rfl) (by decide) ?_
    exact w_X7_readStatement_117 C0 N r1 fr lo h1 _ hf _ _ _ hP hD hS (lv_sub hl [0] rfl)
  have hf := (if_neg c32).symm.trans hf
  by_cases c33 : u8 = 13
  · have hf := (if_pos c33).symm.trans hf
    refine lv_tableIn (tgt := 117) (off := 113) hx hb dX7_readStatement_4 (by rw [c33]; decide) (by rw [c33]; decide) (by rw [c33]; rfl) (by decide) ?_
    exact w_X7_readStatement_117 C0 N r1 fr lo h1 _ hf _ _ _ hP hD hS (lv_sub hl [0] rfl)
  have hf := (if_neg c33).symm.trans hf
  by_cases c34 : u8 = 14
  · have hf := (if_pos c34).symm.trans hf
    refine lv_tableIn (tgt := 117) (off := 113) hx hb dX7_readStatement_4 (by rw [c34]; decide) (by rw [c34]; decide) (by rw [c34]; rfl) (by decide) ?_
    exact w_X7_readStatement_117 C0 N r1 fr lo h1 _ hf _ _ _ hP hD hS (lv_sub hl [0] rfl)
  have hf := (if_neg c34).symm.trans hf
  have ec9 : u8.toInt ≠ 0 := ql_ne (k := 0) c9
  have ec12 : u8.toInt ≠ 1 := ql_ne (k := 1) c12
  have ec15 : u8.toInt ≠ 2 := ql_ne (k := 2) c15
  have ec19 : u8.toInt ≠ 3 := ql_ne (k := 3) c19
  have ec20 : u8.toInt ≠ 4 := ql_ne (k := 4) c20
  have ec21 : u8.toInt ≠ 5 := ql_ne (k := 5) c21
  have ec22 : u8.toInt ≠ 6 := ql_ne (k := 6) c22
  have ec26 : u8.toInt ≠ 7 := ql_ne (k := 7) c26
  have ec27 : u8.toInt ≠ 8 := ql_ne (k := 8) c27
  have ec28 : u8.toInt ≠ 9 := ql_ne (k := 9) c28
  have ec30 : u8.toInt ≠ 10 := ql_ne (k := 10) c30
  have ec31 : u8.toInt ≠ 11 := ql_ne (k := 11) c31
  have ec32 : u8.toInt ≠ 12 := ql_ne (k := 12) c32
  have ec33 : u8.toInt ≠ 13 := ql_ne (k := 13) c33
  have ec34 : u8.toInt ≠ 14 := ql_ne (k := 14) c34
  refine lv_tableOut (tgt := 200) hx hb dX7_readStatement_4 (by omega) (by decide) ?_
  exact w_X7_readStatement_200 C0 N r1 fr lo h1 _ hf _ _ _ hP hD hS (lv_sub hl [0] rfl)
set_option maxRecDepth 100000 in
theorem c_X7_readStatementP (l : Launch) (dC : Nat → ClassId) (dI : Nat → Nat → Nat) (h : Nat) (ad : Nat → Nat) (hp : Nat) (pad : Nat → Nat) (cI : ClassId) (N : Nat) (r1 : ql_Y → Int32 → Option (Int32 × ql_Y)) (fr lo : Nat) (h1 : ∀ (z : ql_Y) (x0 : Int32) (res : Int32 × ql_Y), r1 z x0 = some res → ql_Mi l yX7_readStatement wsX7_readStatement { frames := fr, cells := 0, slots := 0, locals := lo } (dC, dI) [(cI, .int)] (ql_rw h ad hp pad cI) [.ref h, .int x0] z res) (z : ql_Y) (x1 : Int32) (res : Int32 × ql_Y) (hf : f_X7_readStatementP N r1 z x1 = some res) : ql_Mi l yX7_readStatement wsX7_readStatement (rm_X7_readStatement fr lo) (dC, dI) [(cI, .int)] (ql_rw h ad hp pad cI) [.ref h, .int x1] z res :=
  ql_start_i (by decide) rfl (Nat.le_of_ble_eq_true rfl) (fun p e s m below meth c A ls C0 hl hP hD hS => w_X7_readStatement_0 C0 N r1 fr lo h1 z x1 hf s.heap [] ls hP hD hS (lv_sub (show lv_has ls 2 [(0, .ref h), (1, .int x1)] from hl) [0, 1] rfl))
def f_X7_readStatement (N : Nat) : Nat → ql_Y → Int32 → Option (Int32 × ql_Y)
  | 0, _, _ => none
  | d + 1, z, x1 => f_X7_readStatementP N (f_X7_readStatement N d) z x1
theorem c_X7_readStatement (l : Launch) (dC : Nat → ClassId) (dI : Nat → Nat → Nat) (h : Nat) (ad : Nat → Nat) (hp : Nat) (pad : Nat → Nat) (cI : ClassId) (N : Nat) : ∀ (d : Nat) (z : ql_Y) (x1 : Int32) (res : Int32 × ql_Y), f_X7_readStatement N d z x1 = some res → ql_Mi l yX7_readStatement wsX7_readStatement { frames := 33 * d, cells := 0, slots := 0, locals := 750 * d } (dC, dI) [(cI, .int)] (ql_rw h ad hp pad cI) [.ref h, .int x1] z res
  | 0, z, x1, res, hf => by cases hf
  | d + 1, z, x1, res, hf => c_X7_readStatementP l dC dI h ad hp pad cI N (f_X7_readStatement N d) (33 * d) (750 * d) (c_X7_readStatement l dC dI h ad hp pad cI N d) z x1 res hf
abbrev rm_X7_readStatementsC : Room := { frames := 331, cells := 0, slots := 0, locals := 7521 }
def f_X7_readStatementsC (N : Nat) (z : ql_Y) (x1 : Int32) : Option (Int32 × ql_Y) := f_X7_readStatements N (f_X7_readStatement N 10) z x1
theorem c_X7_readStatementsC (l : Launch) (dC : Nat → ClassId) (dI : Nat → Nat → Nat) (h : Nat) (ad : Nat → Nat) (hp : Nat) (pad : Nat → Nat) (cI : ClassId) (N : Nat) (z : ql_Y) (x1 : Int32) (res : Int32 × ql_Y) (hf : f_X7_readStatementsC N z x1 = some res) : ql_Mi l yX7_readStatements wsX7_readStatements rm_X7_readStatementsC (dC, dI) [(cI, .int)] (ql_rw h ad hp pad cI) [.ref h, .int x1] z res := c_X7_readStatements l dC dI h ad hp pad cI N (f_X7_readStatement N 10) 330 7500 (c_X7_readStatement l dC dI h ad hp pad cI N 10) z x1 res hf
abbrev rm_X7_readChoiceC : Room := { frames := 362, cells := 0, slots := 0, locals := 8226 }
def f_X7_readChoiceC (N : Nat) (z : ql_Y) (x1 : Int32) : Option (Int32 × ql_Y) := f_X7_readChoice N (f_X7_readStatement N 10) z x1
theorem c_X7_readChoiceC (l : Launch) (dC : Nat → ClassId) (dI : Nat → Nat → Nat) (h : Nat) (ad : Nat → Nat) (hp : Nat) (pad : Nat → Nat) (cI : ClassId) (N : Nat) (z : ql_Y) (x1 : Int32) (res : Int32 × ql_Y) (hf : f_X7_readChoiceC N z x1 = some res) : ql_Mi l yX7_readChoice wsX7_readChoice rm_X7_readChoiceC (dC, dI) [(cI, .int)] (ql_rw h ad hp pad cI) [.ref h, .int x1] z res := c_X7_readChoice l dC dI h ad hp pad cI N (f_X7_readStatement N 10) 330 7500 (c_X7_readStatement l dC dI h ad hp pad cI N 10) z x1 res hf
abbrev rm_X7_readLoopC : Room := { frames := 362, cells := 0, slots := 0, locals := 8226 }
def f_X7_readLoopC (N : Nat) (z : ql_Y) (x1 : Int32) : Option (Int32 × ql_Y) := f_X7_readLoop N (f_X7_readStatement N 10) z x1
theorem c_X7_readLoopC (l : Launch) (dC : Nat → ClassId) (dI : Nat → Nat → Nat) (h : Nat) (ad : Nat → Nat) (hp : Nat) (pad : Nat → Nat) (cI : ClassId) (N : Nat) (z : ql_Y) (x1 : Int32) (res : Int32 × ql_Y) (hf : f_X7_readLoopC N z x1 = some res) : ql_Mi l yX7_readLoop wsX7_readLoop rm_X7_readLoopC (dC, dI) [(cI, .int)] (ql_rw h ad hp pad cI) [.ref h, .int x1] z res := c_X7_readLoop l dC dI h ad hp pad cI N (f_X7_readStatement N 10) 330 7500 (c_X7_readStatement l dC dI h ad hp pad cI N 10) z x1 res hf
abbrev rm_X7_readStatementC : Room := { frames := 330, cells := 0, slots := 0, locals := 7500 }
def f_X7_readStatementC (N : Nat) (z : ql_Y) (x1 : Int32) : Option (Int32 × ql_Y) := f_X7_readStatement N 10 z x1
theorem c_X7_readStatementC (l : Launch) (dC : Nat → ClassId) (dI : Nat → Nat → Nat) (h : Nat) (ad : Nat → Nat) (hp : Nat) (pad : Nat → Nat) (cI : ClassId) (N : Nat) (z : ql_Y) (x1 : Int32) (res : Int32 × ql_Y) (hf : f_X7_readStatementC N z x1 = some res) : ql_Mi l yX7_readStatement wsX7_readStatement rm_X7_readStatementC (dC, dI) [(cI, .int)] (ql_rw h ad hp pad cI) [.ref h, .int x1] z res := c_X7_readStatement l dC dI h ad hp pad cI N 10 z x1 res hf
