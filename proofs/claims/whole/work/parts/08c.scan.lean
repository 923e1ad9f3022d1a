def ql_bw (tx : Nat) (cB : ClassId) (z : ql_St) : va_W := [(tx, .inl (cB, 300, .inl (z 0)))]
/-! ===== TestedLoops$Reader.isLetter(I)Z ===== -/
abbrev rm_X7_isLetter : Room := { frames := 0, cells := 0, slots := 0, locals := 0 }
theorem qd_X7_isLetter : yX7_isLetter.cls ≠ "java/lang/invoke/MethodHandle" ∧ yX7_isLetter.cls ≠ "java/lang/invoke/VarHandle" ∧ (parseMethodDescriptor yX7_isLetter.desc).map (fun d => d.parameters.length) = some 1 := by decide +kernel
def f_X7_isLetter_0 (N : Nat) (x0 : Int32) : Option (Int32) := if x0 < 97 then some 0 else if 122 < x0 then some 0 else some 1
def f_X7_isLetter (N : Nat) (x0 : Int32) : Option (Int32) := f_X7_isLetter_0 N x0
set_option maxHeartbeats 4000000 in
set_option maxRecDepth 100000 in
theorem w_X7_isLetter_0 {p : Program} {l : Launch} {e : Env} {s : State} {m : MethodId} {args : Array Value} {below : List Frame} {meth : Method} {c : Code} {dC : Nat → ClassId} {dI : Nat → Nat → Nat} {A : Nat → Prop} {res : Int32} (C0 : ql_C p s m args meth c cX7_isLetter 1 (some .boolean) wsX7_isLetter RX7 (dC, dI) [] A) (N : Nat) : ∀ (x0 : Int32), f_X7_isLetter_0 N x0 = some res → ∀ (H : Heap) (locs : List Loc) (ls : Array Slot), va_S A s.heap H locs → lv_has ls 1 [(0, .int x0)] → W p l e rm_X7_isLetter s m args below meth c H locs 0 0 (ql_Qri below A args s res) (F0 m 0 ls []) := by
  have C0q := C0
  obtain ⟨hx, hb, hr, hml, hown, hts, hlocks, hK, hA⟩ := C0q
  intro x0 hf H locs ls hS hl
  unfold f_X7_isLetter_0 at hf
  refine lv_iload_n hx hb dX7_isLetter_0 rfl (lv_at hl 0 rfl) ?_
  refine lv_bipush (v := 97) hx hb dX7_isLetter_1 (by decide) ?_
  refine lv_icmp_lt (tgt := 16) hx hb dX7_isLetter_3 (by decide) (fun c1 => ?_) (fun c1 => ?_)
  · have hf := (if_pos c1).symm.trans hf
    refine lv_iconst (v := 0) hx hb dX7_isLetter_16 (by decide) ?_
    exact ql_rzret C0 (Or.inl rfl) hf hS dX7_isLetter_17
  · have hf := (if_neg c1).symm.trans hf
    refine lv_iload_n hx hb dX7_isLetter_6 rfl (lv_at hl 0 rfl) ?_
    refine lv_bipush (v := 122) hx hb dX7_isLetter_7 (by decide) ?_
    refine lv_icmp_gt (tgt := 16) hx hb dX7_isLetter_9 (by decide) (fun c2 => ?_) (fun c2 => ?_)
    · have hf := (if_pos c2).symm.trans hf
      refine lv_iconst (v := 0) hx hb dX7_isLetter_16 (by decide) ?_
      exact ql_rzret C0 (Or.inl rfl) hf hS dX7_isLetter_17
    · have hf := (if_neg c2).symm.trans hf
      refine lv_iconst (v := 1) hx hb dX7_isLetter_12 (by decide) ?_
      refine lv_goto (tgt := 17) hx hb dX7_isLetter_13 (by decide) ?_
      exact ql_rzret C0 (Or.inr rfl) hf hS dX7_isLetter_17
set_option maxRecDepth 100000 in
theorem c_X7_isLetter (l : Launch) (dC : Nat → ClassId) (dI : Nat → Nat → Nat) (N : Nat) (x0 : Int32) (res : Int32) (hf : f_X7_isLetter N x0 = some res) : ql_Ri l yX7_isLetter wsX7_isLetter rm_X7_isLetter (dC, dI) [] ([]) [.int x0] res :=
  ql_start_ri (by decide) rfl (Nat.le_of_ble_eq_true rfl) (fun p e s m below meth c A ls C0 hl hP hS => w_X7_isLetter_0 C0 N x0 hf s.heap [] ls hS (lv_sub (show lv_has ls 1 [(0, .int x0)] from hl) [0] rfl))
/-! ===== TestedLoops$Reader.wordEnd([BII)I ===== -/
abbrev rm_X7_wordEnd : Room := { frames := 1, cells := 0, slots := 0, locals := 20 }
theorem qd_X7_wordEnd : yX7_wordEnd.cls ≠ "java/lang/invoke/MethodHandle" ∧ yX7_wordEnd.cls ≠ "java/lang/invoke/VarHandle" ∧ (parseMethodDescriptor yX7_wordEnd.desc).map (fun d => d.parameters.length) = some 3 := by decide +kernel
def f_X7_wordEnd_28 (N : Nat) (z : ql_St) (x3 : Int32) : Option (Int32) := some x3
def f_X7_wordEnd_4 (N : Nat) (z : ql_St) : Nat → Int32 → Int32 → Option (Int32)
  | 0, _, _ => none
  | n + 1, x2, x3 => if x2 ≤ x3 then f_X7_wordEnd_28 N z x3 else if ql_ib x3 300 = true then (f_X7_isLetter N (((z 0) x3.toNatClampNeg) &&& 255)).bind fun u2 => if u2 = 0 then f_X7_wordEnd_28 N z x3 else f_X7_wordEnd_4 N z n x2 (x3 + 1) else none
def f_X7_wordEnd_0 (N : Nat) (z : ql_St) (x1 : Int32) (x2 : Int32) : Option (Int32) := f_X7_wordEnd_4 N z N x2 (x1 + 1)
def f_X7_wordEnd (N : Nat) (z : ql_St) (x1 : Int32) (x2 : Int32) : Option (Int32) := f_X7_wordEnd_0 N z x1 x2
set_option maxHeartbeats 4000000 in
set_option maxRecDepth 100000 in
theorem w_X7_wordEnd_28 {p : Program} {l : Launch} {e : Env} {s : State} {m : MethodId} {args : Array Value} {below : List Frame} {meth : Method} {c : Code} {dC : Nat → ClassId} {dI : Nat → Nat → Nat} {A : Nat → Prop} {tx : Nat} {cB : ClassId} {res : Int32} (C0 : ql_C p s m args meth c cX7_wordEnd 4 (some .int) wsX7_wordEnd RX7 (dC, dI) [(cB, .byte)] A) (N : Nat) (z : ql_St) : ∀ (x3 : Int32), f_X7_wordEnd_28 N z x3 = some res → ∀ (H : Heap) (locs : List Loc) (ls : Array Slot), va_P (dC, dI) vwCl ((ql_bw tx cB) z) H → va_S A s.heap H locs → lv_has ls 4 [(3, .int x3)] → W p l e rm_X7_wordEnd s m args below meth c H locs 0 0 (ql_Qri below A args s res) (F0 m 28 ls []) := by
  have C0q := C0
  obtain ⟨hx, hb, hr, hml, hown, hts, hlocks, hK, hA⟩ := C0q
  intro x3 hf H locs ls hP hS hl
  unfold f_X7_wordEnd_28 at hf
  refine lv_iload_n hx hb dX7_wordEnd_28 rfl (lv_at hl 0 rfl) ?_
  exact ql_riret C0 hf hS dX7_wordEnd_29
set_option maxHeartbeats 4000000 in
set_option maxRecDepth 100000 in
theorem w_X7_wordEnd_4 {p : Program} {l : Launch} {e : Env} {s : State} {m : MethodId} {args : Array Value} {below : List Frame} {meth : Method} {c : Code} {dC : Nat → ClassId} {dI : Nat → Nat → Nat} {A : Nat → Prop} {tx : Nat} {cB : ClassId} {res : Int32} (C0 : ql_C p s m args meth c cX7_wordEnd 4 (some .int) wsX7_wordEnd RX7 (dC, dI) [(cB, .byte)] A) (N : Nat) (z : ql_St) : ∀ (n : Nat), ∀ (x2 : Int32) (x3 : Int32), f_X7_wordEnd_4 N z n x2 x3 = some res → ∀ (H : Heap) (locs : List Loc) (ls : Array Slot), va_P (dC, dI) vwCl ((ql_bw tx cB) z) H → va_S A s.heap H locs → lv_has ls 4 [(0, .ref tx), (2, .int x2), (3, .int x3)] → W p l e rm_X7_wordEnd s m args below meth c H locs 0 0 (ql_Qri below A args s res) (F0 m 4 ls []) := by
  have C0q := C0
  obtain ⟨hx, hb, hr, hml, hown, hts, hlocks, hK, hA⟩ := C0q
  intro n
  induction n with
  | zero =>
    intro x2 x3 hf
    rw [f_X7_wordEnd_4] at hf
    cases hf
  | succ n ih =>
    intro x2 x3 hf H locs ls hP hS hl
    rw [f_X7_wordEnd_4] at hf
    refine lv_iload_n hx hb dX7_wordEnd_4 rfl (lv_at hl 2 rfl) ?_
    refine lv_iload_n hx hb dX7_wordEnd_5 rfl (lv_at hl 1 rfl) ?_
    refine lv_icmp_ge (tgt := 28) hx hb dX7_wordEnd_6 (by decide) (fun c1 => ?_) (fun c1 => ?_)
    · have hf := (if_pos c1).symm.trans hf
      exact w_X7_wordEnd_28 C0 N z _ hf _ _ _ hP hS (lv_sub hl [2] rfl)
    · have hf := (if_neg c1).symm.trans hf
      refine lv_aload_n hx hb dX7_wordEnd_9 rfl (lv_at hl 0 rfl) ?_
      refine lv_iload_n hx hb dX7_wordEnd_10 rfl (lv_at hl 2 rfl) ?_
      have g0 := ql_in (ql_gt hf)
      have hf := ql_gx hf
      refine va_bald (f := (z 0)) hx hb hK.1 hP 0 0 rfl rfl g0 dX7_wordEnd_11 ?_
      refine lv_sipush (v := 255) hx hb dX7_wordEnd_12 (by decide) ?_
      refine lv_iand hx hb dX7_wordEnd_15 ?_
      obtain ⟨u2, hu2, hf⟩ := ql_bd hf
      refine ql_callRSi (As := [.int (((z 0) x3.toNatClampNeg) &&& 255)]) (rest := []) C0 (c_X7_isLetter l dC dI N (((z 0) x3.toNatClampNeg) &&& 255) u2 hu2) (va_cwS 1 hts gX7_wordEnd_X7_isLetter rfl rfl rfl qd_X7_isLetter ⟨Nat.le_of_ble_eq_true rfl, Nat.le_of_ble_eq_true rfl⟩) (hK.sub [] rfl) ql_nil hS hl.1 rfl rfl (Nat.le_of_ble_eq_true rfl) dX7_wordEnd_16 (fun H1 locs hk hS => ?_)
      have hP := ql_keep hP hk
      refine lv_if_eq (tgt := 28) hx hb dX7_wordEnd_19 (by decide) (fun c3 => ?_) (fun c3 => ?_)
      · have hf := (if_pos c3).symm.trans hf
        exact w_X7_wordEnd_28 C0 N z _ hf _ _ _ hP hS (lv_sub hl [2] rfl)
      · have hf := (if_neg c3).symm.trans hf
        refine lv_iinc (v := (x3 + 1)) (lv' := [(3, .int (x3 + 1)), (0, .ref tx), (2, .int x2)]) hx hb dX7_wordEnd_22 hl (k := 2) rfl rfl (by decide) rfl (fun ls hl => ?_)
        refine lv_goto (tgt := 4) hx hb dX7_wordEnd_25 (by decide) ?_
        exact ih _ _ hf _ _ _ hP hS (lv_sub hl [1, 2, 0] rfl)
set_option maxHeartbeats 4000000 in
set_option maxRecDepth 100000 in
theorem w_X7_wordEnd_0 {p : Program} {l : Launch} {e : Env} {s : State} {m : MethodId} {args : Array Value} {below : List Frame} {meth : Method} {c : Code} {dC : Nat → ClassId} {dI : Nat → Nat → Nat} {A : Nat → Prop} {tx : Nat} {cB : ClassId} {res : Int32} (C0 : ql_C p s m args meth c cX7_wordEnd 4 (some .int) wsX7_wordEnd RX7 (dC, dI) [(cB, .byte)] A) (N : Nat) (z : ql_St) : ∀ (x1 : Int32) (x2 : Int32), f_X7_wordEnd_0 N z x1 x2 = some res → ∀ (H : Heap) (locs : List Loc) (ls : Array Slot), va_P (dC, dI) vwCl ((ql_bw tx cB) z) H → va_S A s.heap H locs → lv_has ls 4 [(0, .ref tx), (1, .int x1), (2, .int x2)] → W p l e rm_X7_wordEnd s m args below meth c H locs 0 0 (ql_Qri below A args s res) (F0 m 0 ls []) := by
  have C0q := C0
  obtain ⟨hx, hb, hr, hml, hown, hts, hlocks, hK, hA⟩ := C0q
  intro x1 x2 hf H locs ls hP hS hl
  unfold f_X7_wordEnd_0 at hf
  refine lv_iload_n hx hb dX7_wordEnd_0 rfl (lv_at hl 1 rfl) ?_
  refine lv_iconst (v := 1) hx hb dX7_wordEnd_1 (by decide) ?_
  refine lv_iadd hx hb dX7_wordEnd_2 ?_
  refine lv_istore_n (lv' := [(3, .int (x1 + 1)), (0, .ref tx), (1, .int x1), (2, .int x2)]) hx hb dX7_wordEnd_3 rfl hl (by decide) rfl (fun ls hl => ?_)
  exact w_X7_wordEnd_4 C0 N z N _ _ hf _ _ _ hP hS (lv_sub hl [1, 3, 0] rfl)
set_option maxRecDepth 100000 in
theorem c_X7_wordEnd (l : Launch) (dC : Nat → ClassId) (dI : Nat → Nat → Nat) (tx : Nat) (cB : ClassId) (N : Nat) (z : ql_St) (x1 : Int32) (x2 : Int32) (res : Int32) (hf : f_X7_wordEnd N z x1 x2 = some res) : ql_Ri l yX7_wordEnd wsX7_wordEnd rm_X7_wordEnd (dC, dI) [(cB, .byte)] ((ql_bw tx cB) z) [.ref tx, .int x1, .int x2] res :=
  ql_start_ri (by decide) rfl (Nat.le_of_ble_eq_true rfl) (fun p e s m below meth c A ls C0 hl hP hS => w_X7_wordEnd_0 C0 N z x1 x2 hf s.heap [] ls hP hS (lv_sub (show lv_has ls 4 [(0, .ref tx), (1, .int x1), (2, .int x2)] from hl) [0, 1, 2] rfl))
/-! ===== TestedLoops$Reader.wordToken([BII)I ===== -/
abbrev rm_X7_wordToken : Room := { frames := 4, cells := 0, slots := 0, locals := 85 }
theorem qd_X7_wordToken : yX7_wordToken.cls ≠ "java/lang/invoke/MethodHandle" ∧ yX7_wordToken.cls ≠ "java/lang/invoke/VarHandle" ∧ (parseMethodDescriptor yX7_wordToken.desc).map (fun d => d.parameters.length) = some 3 := by decide +kernel
def f_X7_wordToken_88 (N : Nat) (z : ql_St) (k16 : Int32 → Int32 → Int32 → Option (Int32)) (x1 : Int32) (x3 : Int32) (x4 : Int32) : Option (Int32) := k16 x1 x3 (x4 + 1)
def f_X7_wordToken_64 (N : Nat) (z : ql_St) (k16 : Int32 → Int32 → Int32 → Option (Int32)) (x1 : Int32) (x3 : Int32) (x4 : Int32) (x5 : Int32) (x6 : Int32) : Option (Int32) := if x6 = x3 then (f_J0_charAt_5068e N (x5 + x6)).bind fun u2 => if u2 = 32 then some x4 else f_X7_wordToken_88 N z k16 x1 x3 x4 else f_X7_wordToken_88 N z k16 x1 x3 x4
def f_X7_wordToken_33 (N : Nat) (z : ql_St) (k16 : Int32 → Int32 → Int32 → Option (Int32)) : Nat → Int32 → Int32 → Int32 → Int32 → Int32 → Option (Int32)
  | 0, _, _, _, _, _ => none
  | n + 1, x1, x3, x4, x5, x6 => if x3 ≤ x6 then f_X7_wordToken_64 N z k16 x1 x3 x4 x5 x6 else (f_J0_charAt_5068e N (x5 + x6)).bind fun u5 => if ql_ib (x1 + x6) 300 = true then if u5 = ((z 0) (x1 + x6).toNatClampNeg) then f_X7_wordToken_33 N z k16 n x1 x3 x4 x5 (x6 + 1) else f_X7_wordToken_64 N z k16 x1 x3 x4 x5 x6 else none
def f_X7_wordToken_16 (N : Nat) (z : ql_St) : Nat → Int32 → Int32 → Int32 → Option (Int32)
  | 0, _, _, _ => none
  | n + 1, x1, x3, x4 => if 14 < x4 then some 24 else f_X7_wordToken_33 N z (f_X7_wordToken_16 N z n) N x1 x3 x4 (x4 * 6) 0
def f_X7_wordToken_0 (N : Nat) (z : ql_St) (x1 : Int32) (x2 : Int32) : Option (Int32) := if (x2 - x1) < 6 then f_X7_wordToken_16 N z N x1 (x2 - x1) 0 else some 24
def f_X7_wordToken (N : Nat) (z : ql_St) (x1 : Int32) (x2 : Int32) : Option (Int32) := f_X7_wordToken_0 N z x1 x2
set_option maxHeartbeats 4000000 in
set_option maxRecDepth 100000 in
theorem w_X7_wordToken_88 {p : Program} {l : Launch} {e : Env} {s : State} {m : MethodId} {args : Array Value} {below : List Frame} {meth : Method} {c : Code} {dC : Nat → ClassId} {dI : Nat → Nat → Nat} {A : Nat → Prop} {adK adV : Nat → Nat} {tx : Nat} {cB : ClassId} {res : Int32} (C0 : ql_C p s m args meth c cX7_wordToken 7 (some .int) wsX7_wordToken RX7 (dC, dI) [(cB, .byte)] A) (N : Nat) (hE : ql_E adK adV A s s.heap) (z : ql_St) (k16 : Int32 → Int32 → Int32 → Option (Int32)) (hk16 : ∀ (x1 : Int32) (x3 : Int32) (x4 : Int32), k16 x1 x3 x4 = some res → ∀ (H : Heap) (locs : List Loc) (ls : Array Slot), va_P (dC, dI) vwCl ((ql_bw tx cB) z) H → va_S A s.heap H locs → lv_has ls 7 [(0, .ref tx), (1, .int x1), (3, .int x3), (4, .int x4)] → W p l e rm_X7_wordToken s m args below meth c H locs 0 0 (ql_Qri below A args s res) (F0 m 16 ls [])) : ∀ (x1 : Int32) (x3 : Int32) (x4 : Int32), f_X7_wordToken_88 N z k16 x1 x3 x4 = some res → ∀ (H : Heap) (locs : List Loc) (ls : Array Slot), va_P (dC, dI) vwCl ((ql_bw tx cB) z) H → va_S A s.heap H locs → lv_has ls 7 [(0, .ref tx), (1, .int x1), (3, .int x3), (4, .int x4)] → W p l e rm_X7_wordToken s m args below meth c H locs 0 0 (ql_Qri below A args s res) (F0 m 88 ls []) := by
  have C0q := C0
  obtain ⟨hx, hb, hr, hml, hown, hts, hlocks, hK, hA⟩ := C0q
  intro x1 x3 x4 hf H locs ls hP hS hl
  unfold f_X7_wordToken_88 at hf
  refine lv_iinc (v := (x4 + 1)) (lv' := [(4, .int (x4 + 1)), (0, .ref tx), (1, .int x1), (3, .int x3)]) hx hb dX7_wordToken_88 hl (k := 3) rfl rfl (by decide) rfl (fun ls hl => ?_)
  refine lv_goto (tgt := 16) hx hb dX7_wordToken_91 (by decide) ?_
  exact hk16 _ _ _ hf _ _ _ hP hS (lv_sub hl [1, 2, 3, 0] rfl)
set_option maxHeartbeats 4000000 in
set_option maxRecDepth 100000 in
theorem w_X7_wordToken_64 {p : Program} {l : Launch} {e : Env} {s : State} {m : MethodId} {args : Array Value} {below : List Frame} {meth : Method} {c : Code} {dC : Nat → ClassId} {dI : Nat → Nat → Nat} {A : Nat → Prop} {adK adV : Nat → Nat} {tx : Nat} {cB : ClassId} {res : Int32} (C0 : ql_C p s m args meth c cX7_wordToken 7 (some .int) wsX7_wordToken RX7 (dC, dI) [(cB, .byte)] A) (N : Nat) (hE : ql_E adK adV A s s.heap) (z : ql_St) (k16 : Int32 → Int32 → Int32 → Option (Int32)) (hk16 : ∀ (x1 : Int32) (x3 : Int32) (x4 : Int32), k16 x1 x3 x4 = some res → ∀ (H : Heap) (locs : List Loc) (ls : Array Slot), va_P (dC, dI) vwCl ((ql_bw tx cB) z) H → va_S A s.heap H locs → lv_has ls 7 [(0, .ref tx), (1, .int x1), (3, .int x3), (4, .int x4)] → W p l e rm_X7_wordToken s m args below meth c H locs 0 0 (ql_Qri below A args s res) (F0 m 16 ls [])) : ∀ (x1 : Int32) (x3 : Int32) (x4 : Int32) (x5 : Int32) (x6 : Int32), f_X7_wordToken_64 N z k16 x1 x3 x4 x5 x6 = some res → ∀ (H : Heap) (locs : List Loc) (ls : Array Slot), va_P (dC, dI) vwCl ((ql_bw tx cB) z) H → va_S A s.heap H locs → lv_has ls 7 [(0, .ref tx), (1, .int x1), (3, .int x3), (4, .int x4), (5, .int x5), (6, .int x6)] → W p l e rm_X7_wordToken s m args below meth c H locs 0 0 (ql_Qri below A args s res) (F0 m 64 ls []) := by
  have C0q := C0
  obtain ⟨hx, hb, hr, hml, hown, hts, hlocks, hK, hA⟩ := C0q
  intro x1 x3 x4 x5 x6 hf H locs ls hP hS hl
  unfold f_X7_wordToken_64 at hf
  refine lv_iload hx hb dX7_wordToken_64 (lv_at hl 5 rfl) ?_
  refine lv_iload_n hx hb dX7_wordToken_66 rfl (lv_at hl 2 rfl) ?_
  refine lv_icmp_ne (tgt := 88) hx hb dX7_wordToken_67 (by decide) (fun c1 => ?_) (fun c1 => ?_)
  · have hf := (if_neg c1).symm.trans hf
    exact w_X7_wordToken_88 C0 N hE z k16 hk16 _ _ _ hf _ _ _ hP hS (lv_sub hl [0, 1, 2, 3] rfl)
  · have hf := (if_pos c1).symm.trans hf
    refine va_ldcS hx hb hown hE.1 dX7_wordToken_70 ?_
    refine lv_iload hx hb dX7_wordToken_72 (lv_at hl 4 rfl) ?_
    refine lv_iload hx hb dX7_wordToken_74 (lv_at hl 5 rfl) ?_
    refine lv_iadd hx hb dX7_wordToken_76 ?_
    obtain ⟨u2, hu2, hf⟩ := ql_bd hf
    refine ql_callRViE (As := [.int (x5 + x6)]) (rest := []) C0 hE (c_J0_charAt_5068e l dC dI adK adV N (x5 + x6) u2 hu2) (cwV 1 hts gX7_wordToken_J0_charAt_5068e rfl rfl rfl qv_J0_charAt_5068e ⟨Nat.le_of_ble_eq_true rfl, Nat.le_of_ble_eq_true rfl⟩) (vk_recv (i := 0) hE.2.2.1 (by decide) hS) (hK.sub [] rfl) ql_nil hS hl.1 rfl rfl (Nat.le_of_ble_eq_true rfl) dX7_wordToken_77 (fun H1 locs hk hS => ?_)
    have hP := ql_keep hP hk
    refine lv_bipush (v := 32) hx hb dX7_wordToken_80 (by decide) ?_
    refine lv_icmp_ne (tgt := 88) hx hb dX7_wordToken_82 (by decide) (fun c3 => ?_) (fun c3 => ?_)
    · have hf := (if_neg c3).symm.trans hf
      exact w_X7_wordToken_88 C0 N hE z k16 hk16 _ _ _ hf _ _ _ hP hS (lv_sub hl [0, 1, 2, 3] rfl)
    · have hf := (if_pos c3).symm.trans hf
      refine lv_iload hx hb dX7_wordToken_85 (lv_at hl 3 rfl) ?_
      exact ql_riret C0 hf hS dX7_wordToken_87
set_option maxHeartbeats 4000000 in
set_option maxRecDepth 100000 in
theorem w_X7_wordToken_33 {p : Program} {l : Launch} {e : Env} {s : State} {m : MethodId} {args : Array Value} {below : List Frame} {meth : Method} {c : Code} {dC : Nat → ClassId} {dI : Nat → Nat → Nat} {A : Nat → Prop} {adK adV : Nat → Nat} {tx : Nat} {cB : ClassId} {res : Int32} (C0 : ql_C p s m args meth c cX7_wordToken 7 (some .int) wsX7_wordToken RX7 (dC, dI) [(cB, .byte)] A) (N : Nat) (hE : ql_E adK adV A s s.heap) (z : ql_St) (k16 : Int32 → Int32 → Int32 → Option (Int32)) (hk16 : ∀ (x1 : Int32) (x3 : Int32) (x4 : Int32), k16 x1 x3 x4 = some res → ∀ (H : Heap) (locs : List Loc) (ls : Array Slot), va_P (dC, dI) vwCl ((ql_bw tx cB) z) H → va_S A s.heap H locs → lv_has ls 7 [(0, .ref tx), (1, .int x1), (3, .int x3), (4, .int x4)] → W p l e rm_X7_wordToken s m args below meth c H locs 0 0 (ql_Qri below A args s res) (F0 m 16 ls [])) : ∀ (n : Nat), ∀ (x1 : Int32) (x3 : Int32) (x4 : Int32) (x5 : Int32) (x6 : Int32), f_X7_wordToken_33 N z k16 n x1 x3 x4 x5 x6 = some res → ∀ (H : Heap) (locs : List Loc) (ls : Array Slot), va_P (dC, dI) vwCl ((ql_bw tx cB) z) H → va_S A s.heap H locs → lv_has ls 7 [(0, .ref tx), (1, .int x1), (3, .int x3), (4, .int x4), (5, .int x5), (6, .int x6)] → W p l e rm_X7_wordToken s m args below meth c H locs 0 0 (ql_Qri below A args s res) (F0 m 33 ls []) := by
  have C0q := C0
  obtain ⟨hx, hb, hr, hml, hown, hts, hlocks, hK, hA⟩ := C0q
  intro n
  induction n with
  | zero =>
    intro x1 x3 x4 x5 x6 hf
    rw [f_X7_wordToken_33] at hf
    cases hf
  | succ n ih =>
    intro x1 x3 x4 x5 x6 hf H locs ls hP hS hl
    rw [f_X7_wordToken_33] at hf
    refine lv_iload hx hb dX7_wordToken_33 (lv_at hl 5 rfl) ?_
    refine lv_iload_n hx hb dX7_wordToken_35 rfl (lv_at hl 2 rfl) ?_
    refine lv_icmp_ge (tgt := 64) hx hb dX7_wordToken_36 (by decide) (fun c4 => ?_) (fun c4 => ?_)
    · have hf := (if_pos c4).symm.trans hf
      exact w_X7_wordToken_64 C0 N hE z k16 hk16 _ _ _ _ _ hf _ _ _ hP hS (lv_sub hl [0, 1, 2, 3, 4, 5] rfl)
    · have hf := (if_neg c4).symm.trans hf
      refine va_ldcS hx hb hown hE.1 dX7_wordToken_39 ?_
      refine lv_iload hx hb dX7_wordToken_41 (lv_at hl 4 rfl) ?_
      refine lv_iload hx hb dX7_wordToken_43 (lv_at hl 5 rfl) ?_
      refine lv_iadd hx hb dX7_wordToken_45 ?_
      obtain ⟨u5, hu5, hf⟩ := ql_bd hf
      refine ql_callRViE (As := [.int (x5 + x6)]) (rest := []) C0 hE (c_J0_charAt_5068e l dC dI adK adV N (x5 + x6) u5 hu5) (cwV 1 hts gX7_wordToken_J0_charAt_5068e rfl rfl rfl qv_J0_charAt_5068e ⟨Nat.le_of_ble_eq_true rfl, Nat.le_of_ble_eq_true rfl⟩) (vk_recv (i := 0) hE.2.2.1 (by decide) hS) (hK.sub [] rfl) ql_nil hS hl.1 rfl rfl (Nat.le_of_ble_eq_true rfl) dX7_wordToken_46 (fun H1 locs hk hS => ?_)
      have hP := ql_keep hP hk
      refine lv_aload_n hx hb dX7_wordToken_49 rfl (lv_at hl 0 rfl) ?_
      refine lv_iload_n hx hb dX7_wordToken_50 rfl (lv_at hl 1 rfl) ?_
      refine lv_iload hx hb dX7_wordToken_51 (lv_at hl 5 rfl) ?_
      refine lv_iadd hx hb dX7_wordToken_53 ?_
      have g0 := ql_in (ql_gt hf)
      have hf := ql_gx hf
      refine va_bald (f := (z 0)) hx hb hK.1 hP 0 0 rfl rfl g0 dX7_wordToken_54 ?_
      refine lv_icmp_ne (tgt := 64) hx hb dX7_wordToken_55 (by decide) (fun c6 => ?_) (fun c6 => ?_)
      · have hf := (if_neg c6).symm.trans hf
        exact w_X7_wordToken_64 C0 N hE z k16 hk16 _ _ _ _ _ hf _ _ _ hP hS (lv_sub hl [0, 1, 2, 3, 4, 5] rfl)
      · have hf := (if_pos c6).symm.trans hf
        refine lv_iinc (v := (x6 + 1)) (lv' := [(6, .int (x6 + 1)), (0, .ref tx), (1, .int x1), (3, .int x3), (4, .int x4), (5, .int x5)]) hx hb dX7_wordToken_58 hl (k := 5) rfl rfl (by decide) rfl (fun ls hl => ?_)
        refine lv_goto (tgt := 33) hx hb dX7_wordToken_61 (by decide) ?_
        exact ih _ _ _ _ _ hf _ _ _ hP hS (lv_sub hl [1, 2, 3, 4, 5, 0] rfl)
set_option maxHeartbeats 4000000 in
set_option maxRecDepth 100000 in
theorem w_X7_wordToken_16 {p : Program} {l : Launch} {e : Env} {s : State} {m : MethodId} {args : Array Value} {below : List Frame} {meth : Method} {c : Code} {dC : Nat → ClassId} {dI : Nat → Nat → Nat} {A : Nat → Prop} {adK adV : Nat → Nat} {tx : Nat} {cB : ClassId} {res : Int32} (C0 : ql_C p s m args meth c cX7_wordToken 7 (some .int) wsX7_wordToken RX7 (dC, dI) [(cB, .byte)] A) (N : Nat) (hE : ql_E adK adV A s s.heap) (z : ql_St) : ∀ (n : Nat), ∀ (x1 : Int32) (x3 : Int32) (x4 : Int32), f_X7_wordToken_16 N z n x1 x3 x4 = some res → ∀ (H : Heap) (locs : List Loc) (ls : Array Slot), va_P (dC, dI) vwCl ((ql_bw tx cB) z) H → va_S A s.heap H locs → lv_has ls 7 [(0, .ref tx), (1, .int x1), (3, .int x3), (4, .int x4)] → W p l e rm_X7_wordToken s m args below meth c H locs 0 0 (ql_Qri below A args s res) (F0 m 16 ls []) := by
  have C0q := C0
  obtain ⟨hx, hb, hr, hml, hown, hts, hlocks, hK, hA⟩ := C0q
  intro n
  induction n with
  | zero =>
    intro x1 x3 x4 hf
    rw [f_X7_wordToken_16] at hf
    cases hf
  | succ n ih =>
    intro x1 x3 x4 hf H locs ls hP hS hl
    rw [f_X7_wordToken_16] at hf
    refine lv_iload hx hb dX7_wordToken_16 (lv_at hl 3 rfl) ?_
    refine lv_bipush (v := 14) hx hb dX7_wordToken_18 (by decide) ?_
    refine lv_icmp_gt (tgt := 94) hx hb dX7_wordToken_20 (by decide) (fun c7 => ?_) (fun c7 => ?_)
    · have hf := (if_pos c7).symm.trans hf
      refine lv_bipush (v := 24) hx hb dX7_wordToken_94 (by decide) ?_
      exact ql_riret C0 hf hS dX7_wordToken_96
    · have hf := (if_neg c7).symm.trans hf
      refine lv_iload hx hb dX7_wordToken_23 (lv_at hl 3 rfl) ?_
      refine lv_bipush (v := 6) hx hb dX7_wordToken_25 (by decide) ?_
      refine lv_imul hx hb dX7_wordToken_27 ?_
      refine lv_istore (lv' := [(5, .int (x4 * 6)), (0, .ref tx), (1, .int x1), (3, .int x3), (4, .int x4)]) hx hb dX7_wordToken_28 hl (by decide) rfl (fun ls hl => ?_)
      refine lv_iconst (v := 0) hx hb dX7_wordToken_30 (by decide) ?_
      refine lv_istore (lv' := [(6, .int 0), (5, .int (x4 * 6)), (0, .ref tx), (1, .int x1), (3, .int x3), (4, .int x4)]) hx hb dX7_wordToken_31 hl (by decide) rfl (fun ls hl => ?_)
      exact w_X7_wordToken_33 C0 N hE z (f_X7_wordToken_16 N z n) ih N _ _ _ _ _ hf _ _ _ hP hS (lv_sub hl [2, 3, 4, 5, 1, 0] rfl)
set_option maxHeartbeats 4000000 in
set_option maxRecDepth 100000 in
theorem w_X7_wordToken_0 {p : Program} {l : Launch} {e : Env} {s : State} {m : MethodId} {args : Array Value} {below : List Frame} {meth : Method} {c : Code} {dC : Nat → ClassId} {dI : Nat → Nat → Nat} {A : Nat → Prop} {adK adV : Nat → Nat} {tx : Nat} {cB : ClassId} {res : Int32} (C0 : ql_C p s m args meth c cX7_wordToken 7 (some .int) wsX7_wordToken RX7 (dC, dI) [(cB, .byte)] A) (N : Nat) (hE : ql_E adK adV A s s.heap) (z : ql_St) : ∀ (x1 : Int32) (x2 : Int32), f_X7_wordToken_0 N z x1 x2 = some res → ∀ (H : Heap) (locs : List Loc) (ls : Array Slot), va_P (dC, dI) vwCl ((ql_bw tx cB) z) H → va_S A s.heap H locs → lv_has ls 7 [(0, .ref tx), (1, .int x1), (2, .int x2)] → W p l e rm_X7_wordToken s m args below meth c H locs 0 0 (ql_Qri below A args s res) (F0 m 0 ls []) := by
  have C0q := C0
  obtain ⟨hx, hb, hr, hml, hown, hts, hlocks, hK, hA⟩ := C0q
  intro x1 x2 hf H locs ls hP hS hl
  unfold f_X7_wordToken_0 at hf
  refine lv_iload_n hx hb dX7_wordToken_0 rfl (lv_at hl 2 rfl) ?_
  refine lv_iload_n hx hb dX7_wordToken_1 rfl (lv_at hl 1 rfl) ?_
  refine lv_isub hx hb dX7_wordToken_2 ?_
  refine lv_istore_n (lv' := [(3, .int (x2 - x1)), (0, .ref tx), (1, .int x1), (2, .int x2)]) hx hb dX7_wordToken_3 rfl hl (by decide) rfl (fun ls hl => ?_)
  refine lv_iload_n hx hb dX7_wordToken_4 rfl (lv_at hl 0 rfl) ?_
  refine lv_bipush (v := 6) hx hb dX7_wordToken_5 (by decide) ?_
  refine lv_icmp_lt (tgt := 13) hx hb dX7_wordToken_7 (by decide) (fun c8 => ?_) (fun c8 => ?_)
  · have hf := (if_pos c8).symm.trans hf
    refine lv_iconst (v := 0) hx hb dX7_wordToken_13 (by decide) ?_
    refine lv_istore (lv' := [(4, .int 0), (3, .int (x2 - x1)), (0, .ref tx), (1, .int x1), (2, .int x2)]) hx hb dX7_wordToken_14 hl (by decide) rfl (fun ls hl => ?_)
    exact w_X7_wordToken_16 C0 N hE z N _ _ _ hf _ _ _ hP hS (lv_sub hl [2, 3, 1, 0] rfl)
  · have hf := (if_neg c8).symm.trans hf
    refine lv_bipush (v := 24) hx hb dX7_wordToken_10 (by decide) ?_
    exact ql_riret C0 hf hS dX7_wordToken_12
set_option maxRecDepth 100000 in
theorem c_X7_wordToken (l : Launch) (dC : Nat → ClassId) (dI : Nat → Nat → Nat) (adK adV : Nat → Nat) (tx : Nat) (cB : ClassId) (N : Nat) (z : ql_St) (x1 : Int32) (x2 : Int32) (res : Int32) (hf : f_X7_wordToken N z x1 x2 = some res) : ql_RiE adK adV l yX7_wordToken wsX7_wordToken rm_X7_wordToken (dC, dI) [(cB, .byte)] ((ql_bw tx cB) z) [.ref tx, .int x1, .int x2] res :=
  ql_start_riE (by decide) rfl (Nat.le_of_ble_eq_true rfl) (fun p e s m below meth c A ls C0 hl hP hS hE => w_X7_wordToken_0 C0 N hE z x1 x2 hf s.heap [] ls hP hS (lv_sub (show lv_has ls 7 [(0, .ref tx), (1, .int x1), (2, .int x2)] from hl) [0, 1, 2] rfl))
/-! ===== TestedLoops$Reader.signToken(I)I ===== -/
abbrev rm_X7_signToken : Room := { frames := 4, cells := 0, slots := 0, locals := 91 }
theorem qd_X7_signToken : yX7_signToken.cls ≠ "java/lang/invoke/MethodHandle" ∧ yX7_signToken.cls ≠ "java/lang/invoke/VarHandle" ∧ (parseMethodDescriptor yX7_signToken.desc).map (fun d => d.parameters.length) = some 1 := by decide +kernel
def f_X7_signToken_0 (N : Nat) (x0 : Int32) : Option (Int32) := (f_J0_indexOf_0f7a4 N ((x0.toUInt32 % 65536).toInt32)).bind fun u1 => if 0 ≤ u1 then some (15 + u1) else some 24
def f_X7_signToken (N : Nat) (x0 : Int32) : Option (Int32) := f_X7_signToken_0 N x0
set_option maxHeartbeats 4000000 in
set_option maxRecDepth 100000 in
theorem w_X7_signToken_0 {p : Program} {l : Launch} {e : Env} {s : State} {m : MethodId} {args : Array Value} {below : List Frame} {meth : Method} {c : Code} {dC : Nat → ClassId} {dI : Nat → Nat → Nat} {A : Nat → Prop} {adK adV : Nat → Nat} {res : Int32} (C0 : ql_C p s m args meth c cX7_signToken 2 (some .int) wsX7_signToken RX7 (dC, dI) [] A) (N : Nat) (hE : ql_E adK adV A s s.heap) : ∀ (x0 : Int32), f_X7_signToken_0 N x0 = some res → ∀ (H : Heap) (locs : List Loc) (ls : Array Slot), va_S A s.heap H locs → lv_has ls 2 [(0, .int x0)] → W p l e rm_X7_signToken s m args below meth c H locs 0 0 (ql_Qri below A args s res) (F0 m 0 ls []) := by
  have C0q := C0
  obtain ⟨hx, hb, hr, hml, hown, hts, hlocks, hK, hA⟩ := C0q
  intro x0 hf H locs ls hS hl
  unfold f_X7_signToken_0 at hf
  refine va_ldcS hx hb hown hE.2.1 dX7_signToken_0 ?_
  refine lv_iload_n hx hb dX7_signToken_2 rfl (lv_at hl 0 rfl) ?_
  refine lv_i2c hx hb dX7_signToken_3 rfl ?_
  obtain ⟨u1, hu1, hf⟩ := ql_bd hf
  refine ql_callRViE (As := [.int ((x0.toUInt32 % 65536).toInt32)]) (rest := []) C0 hE (c_J0_indexOf_0f7a4 l dC dI adK adV N ((x0.toUInt32 % 65536).toInt32) u1 hu1) (cwV 1 hts gX7_signToken_J0_indexOf_0f7a4 rfl rfl rfl qv_J0_indexOf_0f7a4 ⟨Nat.le_of_ble_eq_true rfl, Nat.le_of_ble_eq_true rfl⟩) (vk_recv (i := 1) hE.2.2.1 (by decide) hS) (hK.sub [] rfl) ql_nil hS hl.1 rfl rfl (Nat.le_of_ble_eq_true rfl) dX7_signToken_4 (fun H1 locs hk hS => ?_)
  refine lv_istore_n (lv' := [(1, .int u1), (0, .int x0)]) hx hb dX7_signToken_7 rfl hl (by decide) rfl (fun ls hl => ?_)
  refine lv_iload_n hx hb dX7_signToken_8 rfl (lv_at hl 0 rfl) ?_
  refine lv_if_ge (tgt := 17) hx hb dX7_signToken_9 (by decide) (fun c2 => ?_) (fun c2 => ?_)
  · have hf := (if_pos c2).symm.trans hf
    refine lv_bipush (v := 15) hx hb dX7_signToken_17 (by decide) ?_
    refine lv_iload_n hx hb dX7_signToken_19 rfl (lv_at hl 0 rfl) ?_
    refine lv_iadd hx hb dX7_signToken_20 ?_
    exact ql_riret C0 hf hS dX7_signToken_21
  · have hf := (if_neg c2).symm.trans hf
    refine lv_bipush (v := 24) hx hb dX7_signToken_12 (by decide) ?_
    refine lv_goto (tgt := 21) hx hb dX7_signToken_14 (by decide) ?_
    exact ql_riret C0 hf hS dX7_signToken_21
set_option maxRecDepth 100000 in
theorem c_X7_signToken (l : Launch) (dC : Nat → ClassId) (dI : Nat → Nat → Nat) (adK adV : Nat → Nat) (N : Nat) (x0 : Int32) (res : Int32) (hf : f_X7_signToken N x0 = some res) : ql_RiE adK adV l yX7_signToken wsX7_signToken rm_X7_signToken (dC, dI) [] ([]) [.int x0] res :=
  ql_start_riE (by decide) rfl (Nat.le_of_ble_eq_true rfl) (fun p e s m below meth c A ls C0 hl hP hS hE => w_X7_signToken_0 C0 N hE x0 hf s.heap [] ls hS (lv_sub (show lv_has ls 2 [(0, .int x0)] from hl) [0] rfl))
def ql_sw (h : Nat) (ad : Nat → Nat) (hp tx : Nat) (cI cB : ClassId) (B : Nat → Int32) (z : ql_St) : va_W := ql_rc h ad hp cI z ++ [(tx, .inl (cB, 300, .inl B))]
/-! ===== TestedLoops$Reader.scan([BI)V ===== -/
abbrev rm_X7_scan : Room := { frames := 5, cells := 0, slots := 0, locals := 112 }
theorem iw_X7_scan_X7 : ∀ w ∈ wsX70, w ∈ wsX7_scan := fun w h => List.mem_cons_of_mem _ (List.mem_append_right _ h)
theorem qv_X7_scan : yX7_scan.cls = RX7 ∧ yX7_scan.cls ≠ "java/lang/invoke/MethodHandle" ∧ yX7_scan.cls ≠ "java/lang/invoke/VarHandle" ∧ (parseMethodDescriptor yX7_scan.desc).map (fun d => d.parameters.length) = some 2 := by decide +kernel
def f_X7_scan_115 (N : Nat) (B : Nat → Int32) (k5 : ql_St → Int32 → Int32 → Int32 → Option (ql_St)) (z : ql_St) (x2 : Int32) (x3 : Int32) (x4 : Int32) : Option (ql_St) := k5 z x2 x3 (x4 + 1)
def f_X7_scan_103 (N : Nat) (B : Nat → Int32) (k5 : ql_St → Int32 → Int32 → Int32 → Option (ql_St)) (z : ql_St) (x2 : Int32) (x3 : Int32) (x4 : Int32) (y0 : Int32) (y1 : Int32) : Option (ql_St) := if ql_ib y1 301 = true then if ql_ib x3 301 = true then f_X7_scan_115 N B k5 (ql_up (ql_up z 0 (upd (z 0) y1.toNatClampNeg y0)) 1 (upd (z 1) x3.toNatClampNeg x4)) x2 (x3 + 1) x4 else none else none
def f_X7_scan_55 (N : Nat) (B : Nat → Int32) (k5 : ql_St → Int32 → Int32 → Int32 → Option (ql_St)) (z : ql_St) (x2 : Int32) (x3 : Int32) (x4 : Int32) (x5 : Int32) (y0 : Int32) : Option (ql_St) := if x5 = 32 then f_X7_scan_115 N B k5 z x2 x3 x4 else if y0 = 0 then (f_X7_isLetter N x5).bind fun u3 => if u3 = 0 then (f_X7_signToken N x5).bind fun u5 => f_X7_scan_103 N B k5 z x2 x3 x4 u5 x3 else (f_X7_wordEnd N (fun _ => B) x4 x2).bind fun u6 => (f_X7_wordToken N (fun _ => B) x4 u6).bind fun u7 => f_X7_scan_103 N B k5 z x2 x3 x4 u7 x3 else f_X7_scan_115 N B k5 z x2 x3 x4
def f_X7_scan_54 (N : Nat) (B : Nat → Int32) (k5 : ql_St → Int32 → Int32 → Int32 → Option (ql_St)) (z : ql_St) (x2 : Int32) (x3 : Int32) (x4 : Int32) (x5 : Int32) : Option (ql_St) := f_X7_scan_55 N B k5 z x2 x3 x4 x5 0
def f_X7_scan_5 (N : Nat) (B : Nat → Int32) : Nat → ql_St → Int32 → Int32 → Int32 → Option (ql_St)
  | 0, _, _, _, _ => none
  | n + 1, z, x2, x3, x4 => if x2 ≤ x4 then if ql_ib x3 301 = true then if ql_ib x3 301 = true then some (ql_up (ql_up z 0 (upd (z 0) x3.toNatClampNeg 23)) 1 (upd (z 1) x3.toNatClampNeg x2)) else none else none else if ql_ib x4 300 = true then (f_X7_isLetter N ((B x4.toNatClampNeg) &&& 255)).bind fun u9 => if u9 = 0 then f_X7_scan_54 N B (f_X7_scan_5 N B n) z x2 x3 x4 ((B x4.toNatClampNeg) &&& 255) else if x4 ≤ 0 then f_X7_scan_54 N B (f_X7_scan_5 N B n) z x2 x3 x4 ((B x4.toNatClampNeg) &&& 255) else if ql_ib (x4 - 1) 300 = true then (f_X7_isLetter N ((B (x4 - 1).toNatClampNeg) &&& 255)).bind fun u12 => if u12 = 0 then f_X7_scan_54 N B (f_X7_scan_5 N B n) z x2 x3 x4 ((B x4.toNatClampNeg) &&& 255) else f_X7_scan_55 N B (f_X7_scan_5 N B n) z x2 x3 x4 ((B x4.toNatClampNeg) &&& 255) 1 else none else none
def f_X7_scan_0 (N : Nat) (B : Nat → Int32) (z : ql_St) (x2 : Int32) : Option (ql_St) := f_X7_scan_5 N B N z x2 0 0
def f_X7_scan (N : Nat) (B : Nat → Int32) (z : ql_St) (x2 : Int32) : Option (ql_St) := f_X7_scan_0 N B z x2
set_option maxHeartbeats 4000000 in
set_option maxRecDepth 100000 in
theorem w_X7_scan_115 {p : Program} {l : Launch} {e : Env} {s : State} {m : MethodId} {args : Array Value} {below : List Frame} {meth : Method} {c : Code} {dC : Nat → ClassId} {dI : Nat → Nat → Nat} {A : Nat → Prop} {adK adV : Nat → Nat} {h : Nat} {ad : Nat → Nat} {hp tx : Nat} {cI cB : ClassId} {res : ql_St} (C0 : ql_C p s m args meth c cX7_scan 7 none wsX7_scan RX7 (dC, dI) [(cI, .int), (cB, .byte)] A) (N : Nat) (B : Nat → Int32) (hE : ql_E adK adV A s s.heap) (k5 : ql_St → Int32 → Int32 → Int32 → Option (ql_St)) (hk5 : ∀ (z : ql_St) (x2 : Int32) (x3 : Int32) (x4 : Int32), k5 z x2 x3 x4 = some res → ∀ (H : Heap) (locs : List Loc) (ls : Array Slot), va_P (dC, dI) vwCl ((ql_sw h ad hp tx cI cB B) z) H → va_D A ((ql_sw h ad hp tx cI cB B) z) → va_S A s.heap H locs → lv_has ls 7 [(0, .ref h), (1, .ref tx), (2, .int x2), (3, .int x3), (4, .int x4)] → W p l e rm_X7_scan s m args below meth c H locs 0 0 (ql_Qv below (dC, dI) (ql_sw h ad hp tx cI cB B) A args s res) (F0 m 5 ls [])) : ∀ (z : ql_St) (x2 : Int32) (x3 : Int32) (x4 : Int32), f_X7_scan_115 N B k5 z x2 x3 x4 = some res → ∀ (H : Heap) (locs : List Loc) (ls : Array Slot), va_P (dC, dI) vwCl ((ql_sw h ad hp tx cI cB B) z) H → va_D A ((ql_sw h ad hp tx cI cB B) z) → va_S A s.heap H locs → lv_has ls 7 [(0, .ref h), (1, .ref tx), (2, .int x2), (3, .int x3), (4, .int x4)] → W p l e rm_X7_scan s m args below meth c H locs 0 0 (ql_Qv below (dC, dI) (ql_sw h ad hp tx cI cB B) A args s res) (F0 m 115 ls []) := by
  have C0q := C0
  obtain ⟨hx, hb, hr, hml, hown, hts, hlocks, hK, hA⟩ := C0q
  intro z x2 x3 x4 hf H locs ls hP hD hS hl
  unfold f_X7_scan_115 at hf
  refine lv_iinc (v := (x4 + 1)) (lv' := [(4, .int (x4 + 1)), (0, .ref h), (1, .ref tx), (2, .int x2), (3, .int x3)]) hx hb dX7_scan_115 hl (k := 4) rfl rfl (by decide) rfl (fun ls hl => ?_)
  refine lv_goto (tgt := 5) hx hb dX7_scan_118 (by decide) ?_
  exact hk5 _ _ _ _ hf _ _ _ hP hD hS (lv_sub hl [1, 2, 3, 4, 0] rfl)
set_option maxHeartbeats 4000000 in
set_option maxRecDepth 100000 in
theorem w_X7_scan_103 {p : Program} {l : Launch} {e : Env} {s : State} {m : MethodId} {args : Array Value} {below : List Frame} {meth : Method} {c : Code} {dC : Nat → ClassId} {dI : Nat → Nat → Nat} {A : Nat → Prop} {adK adV : Nat → Nat} {h : Nat} {ad : Nat → Nat} {hp tx : Nat} {cI cB : ClassId} {res : ql_St} (C0 : ql_C p s m args meth c cX7_scan 7 none wsX7_scan RX7 (dC, dI) [(cI, .int), (cB, .byte)] A) (N : Nat) (B : Nat → Int32) (hE : ql_E adK adV A s s.heap) (k5 : ql_St → Int32 → Int32 → Int32 → Option (ql_St)) (hk5 : ∀ (z : ql_St) (x2 : Int32) (x3 : Int32) (x4 : Int32), k5 z x2 x3 x4 = some res → ∀ (H : Heap) (locs : List Loc) (ls : Array Slot), va_P (dC, dI) vwCl ((ql_sw h ad hp tx cI cB B) z) H → va_D A ((ql_sw h ad hp tx cI cB B) z) → va_S A s.heap H locs → lv_has ls 7 [(0, .ref h), (1, .ref tx), (2, .int x2), (3, .int x3), (4, .int x4)] → W p l e rm_X7_scan s m args below meth c H locs 0 0 (ql_Qv below (dC, dI) (ql_sw h ad hp tx cI cB B) A args s res) (F0 m 5 ls [])) : ∀ (z : ql_St) (x2 : Int32) (x3 : Int32) (x4 : Int32) (y0 : Int32) (y1 : Int32), f_X7_scan_103 N B k5 z x2 x3 x4 y0 y1 = some res → ∀ (H : Heap) (locs : List Loc) (ls : Array Slot), va_P (dC, dI) vwCl ((ql_sw h ad hp tx cI cB B) z) H → va_D A ((ql_sw h ad hp tx cI cB B) z) → va_S A s.heap H locs → lv_has ls 7 [(0, .ref h), (1, .ref tx), (2, .int x2), (3, .int x3), (4, .int x4)] → W p l e rm_X7_scan s m args below meth c H locs 0 0 (ql_Qv below (dC, dI) (ql_sw h ad hp tx cI cB B) A args s res) (F0 m 103 ls [.int y0, .int y1, .ref (ad 0)]) := by
  have C0q := C0
  obtain ⟨hx, hb, hr, hml, hown, hts, hlocks, hK, hA⟩ := C0q
  have fl15 := hts (Cond.fieldLink RX7 15 "TestedLoops$Reader" "begins" "[I") (by decide +kernel)
  intro z x2 x3 x4 y0 y1 hf H locs ls hP hD hS hl
  unfold f_X7_scan_103 at hf
  have g0 := ql_in (ql_gt hf)
  have hf := ql_gx hf
  refine va_iast (f := (z 0)) hx hb hK.1 hP hD hS 1 0 rfl rfl g0 dX7_scan_103 (fun H locs hP hD hS => ?_)
  refine lv_aload_n hx hb dX7_scan_104 rfl (lv_at hl 0 rfl) ?_
  refine va_get (D := (dC, dI)) (ci := 7) (v := .ref (ad 1)) (C := RX7) (T := TX7) (N := 5) hx hb hts iw_X7_scan_X7 hown hK.1 hP 0 rfl rfl 1 (by decide) fl15 (fun _ h9 => h9) rfl dX7_scan_105 ?_
  refine lv_iload_n hx hb dX7_scan_108 rfl (lv_at hl 3 rfl) ?_
  refine lv_iload hx hb dX7_scan_109 (lv_at hl 4 rfl) ?_
  have g0 := ql_in (ql_gt hf)
  have hf := ql_gx hf
  refine va_iast (f := (z 1)) hx hb hK.1 hP hD hS 2 0 rfl rfl g0 dX7_scan_111 (fun H locs hP hD hS => ?_)
  refine lv_iinc (v := (x3 + 1)) (lv' := [(3, .int (x3 + 1)), (0, .ref h), (1, .ref tx), (2, .int x2), (4, .int x4)]) hx hb dX7_scan_112 hl (k := 3) rfl rfl (by decide) rfl (fun ls hl => ?_)
  exact w_X7_scan_115 C0 N B hE k5 hk5 _ _ _ _ hf _ _ _ hP hD hS (lv_sub hl [1, 2, 3, 0, 4] rfl)
set_option maxHeartbeats 4000000 in
set_option maxRecDepth 100000 in
theorem w_X7_scan_55 {p : Program} {l : Launch} {e : Env} {s : State} {m : MethodId} {args : Array Value} {below : List Frame} {meth : Method} {c : Code} {dC : Nat → ClassId} {dI : Nat → Nat → Nat} {A : Nat → Prop} {adK adV : Nat → Nat} {h : Nat} {ad : Nat → Nat} {hp tx : Nat} {cI cB : ClassId} {res : ql_St} (C0 : ql_C p s m args meth c cX7_scan 7 none wsX7_scan RX7 (dC, dI) [(cI, .int), (cB, .byte)] A) (N : Nat) (B : Nat → Int32) (hE : ql_E adK adV A s s.heap) (k5 : ql_St → Int32 → Int32 → Int32 → Option (ql_St)) (hk5 : ∀ (z : ql_St) (x2 : Int32) (x3 : Int32) (x4 : Int32), k5 z x2 x3 x4 = some res → ∀ (H : Heap) (locs : List Loc) (ls : Array Slot), va_P (dC, dI) vwCl ((ql_sw h ad hp tx cI cB B) z) H → va_D A ((ql_sw h ad hp tx cI cB B) z) → va_S A s.heap H locs → lv_has ls 7 [(0, .ref h), (1, .ref tx), (2, .int x2), (3, .int x3), (4, .int x4)] → W p l e rm_X7_scan s m args below meth c H locs 0 0 (ql_Qv below (dC, dI) (ql_sw h ad hp tx cI cB B) A args s res) (F0 m 5 ls [])) : ∀ (z : ql_St) (x2 : Int32) (x3 : Int32) (x4 : Int32) (x5 : Int32) (y0 : Int32), f_X7_scan_55 N B k5 z x2 x3 x4 x5 y0 = some res → ∀ (H : Heap) (locs : List Loc) (ls : Array Slot), va_P (dC, dI) vwCl ((ql_sw h ad hp tx cI cB B) z) H → va_D A ((ql_sw h ad hp tx cI cB B) z) → va_S A s.heap H locs → lv_has ls 7 [(0, .ref h), (1, .ref tx), (2, .int x2), (3, .int x3), (4, .int x4), (5, .int x5)] → W p l e rm_X7_scan s m args below meth c H locs 0 0 (ql_Qv below (dC, dI) (ql_sw h ad hp tx cI cB B) A args s res) (F0 m 55 ls [.int y0]) := by
  have C0q := C0
  obtain ⟨hx, hb, hr, hml, hown, hts, hlocks, hK, hA⟩ := C0q
  have fl9 := hts (Cond.fieldLink RX7 9 "TestedLoops$Reader" "tokens" "[I") (by decide +kernel)
  intro z x2 x3 x4 x5 y0 hf H locs ls hP hD hS hl
  unfold f_X7_scan_55 at hf
  refine lv_istore (lv' := [(6, .int y0), (0, .ref h), (1, .ref tx), (2, .int x2), (3, .int x3), (4, .int x4), (5, .int x5)]) hx hb dX7_scan_55 hl (by decide) rfl (fun ls hl => ?_)
  refine lv_iload hx hb dX7_scan_57 (lv_at hl 6 rfl) ?_
  refine lv_bipush (v := 32) hx hb dX7_scan_59 (by decide) ?_
  refine lv_icmp_eq (tgt := 115) hx hb dX7_scan_61 (by decide) (fun c1 => ?_) (fun c1 => ?_)
  · have hf := (if_pos c1).symm.trans hf
    exact w_X7_scan_115 C0 N B hE k5 hk5 _ _ _ _ hf _ _ _ hP hD hS (lv_sub hl [1, 2, 3, 4, 5] rfl)
  · have hf := (if_neg c1).symm.trans hf
    refine lv_iload hx hb dX7_scan_64 (lv_at hl 0 rfl) ?_
    refine lv_if_ne (tgt := 115) hx hb dX7_scan_66 (by decide) (fun c2 => ?_) (fun c2 => ?_)
    · have hf := (if_neg c2).symm.trans hf
      exact w_X7_scan_115 C0 N B hE k5 hk5 _ _ _ _ hf _ _ _ hP hD hS (lv_sub hl [1, 2, 3, 4, 5] rfl)
    · have hf := (if_pos c2).symm.trans hf
      refine lv_aload_n hx hb dX7_scan_69 rfl (lv_at hl 1 rfl) ?_
      refine va_get (D := (dC, dI)) (ci := 7) (v := .ref (ad 0)) (C := RX7) (T := TX7) (N := 5) hx hb hts iw_X7_scan_X7 hown hK.1 hP 0 rfl rfl 0 (by decide) fl9 (fun _ h9 => h9) rfl dX7_scan_70 ?_
      refine lv_iload_n hx hb dX7_scan_73 rfl (lv_at hl 4 rfl) ?_
      refine lv_iload hx hb dX7_scan_74 (lv_at hl 6 rfl) ?_
      obtain ⟨u3, hu3, hf⟩ := ql_bd hf
      refine ql_callRSi (As := [.int x5]) (rest := [.int x3, .ref (ad 0)]) C0 (c_X7_isLetter l dC dI N x5 u3 hu3) (va_cwS 1 hts gX7_scan_X7_isLetter rfl rfl rfl qd_X7_isLetter ⟨Nat.le_of_ble_eq_true rfl, Nat.le_of_ble_eq_true rfl⟩) (hK.sub [] rfl) ql_nil hS hl.1 rfl rfl (Nat.le_of_ble_eq_true rfl) dX7_scan_76 (fun H1 locs hk hS => ?_)
      have hP := ql_keep hP hk
      refine lv_if_eq (tgt := 98) hx hb dX7_scan_79 (by decide) (fun c4 => ?_) (fun c4 => ?_)
      · have hf := (if_pos c4).symm.trans hf
        refine lv_iload hx hb dX7_scan_98 (lv_at hl 6 rfl) ?_
        obtain ⟨u5, hu5, hf⟩ := ql_bd hf
        refine ql_callRSiE (As := [.int x5]) (rest := [.int x3, .ref (ad 0)]) C0 hE (c_X7_signToken l dC dI adK adV N x5 u5 hu5) (va_cwS 1 hts gX7_scan_X7_signToken rfl rfl rfl qd_X7_signToken ⟨Nat.le_of_ble_eq_true rfl, Nat.le_of_ble_eq_true rfl⟩) (hK.sub [] rfl) ql_nil hS hl.1 rfl rfl (Nat.le_of_ble_eq_true rfl) dX7_scan_100 (fun H1 locs hk hS => ?_)
        have hP := ql_keep hP hk
        exact w_X7_scan_103 C0 N B hE k5 hk5 _ _ _ _ _ _ hf _ _ _ hP hD hS (lv_sub hl [1, 2, 3, 4, 5] rfl)
      · have hf := (if_neg c4).symm.trans hf
        refine lv_aload_n hx hb dX7_scan_82 rfl (lv_at hl 2 rfl) ?_
        refine lv_iload hx hb dX7_scan_83 (lv_at hl 5 rfl) ?_
        refine lv_aload_n hx hb dX7_scan_85 rfl (lv_at hl 2 rfl) ?_
        refine lv_iload hx hb dX7_scan_86 (lv_at hl 5 rfl) ?_
        refine lv_iload_n hx hb dX7_scan_88 rfl (lv_at hl 3 rfl) ?_
        obtain ⟨u6, hu6, hf⟩ := ql_bd hf
        refine ql_callRSi (As := [.ref tx, .int x4, .int x2]) (rest := [.int x4, .ref tx, .int x3, .ref (ad 0)]) C0 (c_X7_wordEnd l dC dI tx cB N (fun _ => B) x4 x2 u6 hu6) (va_cwS 3 hts gX7_scan_X7_wordEnd rfl rfl rfl qd_X7_wordEnd ⟨Nat.le_of_ble_eq_true rfl, Nat.le_of_ble_eq_true rfl⟩) (hK.sub [1] rfl) (hP.sub [3] rfl) hS hl.1 rfl rfl (Nat.le_of_ble_eq_true rfl) dX7_scan_89 (fun H1 locs hk hS => ?_)
        have hP := ql_keep hP hk
        obtain ⟨u7, hu7, hf⟩ := ql_bd hf
        refine ql_callRSiE (As := [.ref tx, .int x4, .int u6]) (rest := [.int x3, .ref (ad 0)]) C0 hE (c_X7_wordToken l dC dI adK adV tx cB N (fun _ => B) x4 u6 u7 hu7) (va_cwS 3 hts gX7_scan_X7_wordToken rfl rfl rfl qd_X7_wordToken ⟨Nat.le_of_ble_eq_true rfl, Nat.le_of_ble_eq_true rfl⟩) (hK.sub [1] rfl) (hP.sub [3] rfl) hS hl.1 rfl rfl (Nat.le_of_ble_eq_true rfl) dX7_scan_92 (fun H1 locs hk hS => ?_)
        have hP := ql_keep hP hk
        refine lv_goto (tgt := 103) hx hb dX7_scan_95 (by decide) ?_
        exact w_X7_scan_103 C0 N B hE k5 hk5 _ _ _ _ _ _ hf _ _ _ hP hD hS (lv_sub hl [1, 2, 3, 4, 5] rfl)
set_option maxHeartbeats 4000000 in
set_option maxRecDepth 100000 in
theorem w_X7_scan_54 {p : Program} {l : Launch} {e : Env} {s : State} {m : MethodId} {args : Array Value} {below : List Frame} {meth : Method} {c : Code} {dC : Nat → ClassId} {dI : Nat → Nat → Nat} {A : Nat → Prop} {adK adV : Nat → Nat} {h : Nat} {ad : Nat → Nat} {hp tx : Nat} {cI cB : ClassId} {res : ql_St} (C0 : ql_C p s m args meth c cX7_scan 7 none wsX7_scan RX7 (dC, dI) [(cI, .int), (cB, .byte)] A) (N : Nat) (B : Nat → Int32) (hE : ql_E adK adV A s s.heap) (k5 : ql_St → Int32 → Int32 → Int32 → Option (ql_St)) (hk5 : ∀ (z : ql_St) (x2 : Int32) (x3 : Int32) (x4 : Int32), k5 z x2 x3 x4 = some res → ∀ (H : Heap) (locs : List Loc) (ls : Array Slot), va_P (dC, dI) vwCl ((ql_sw h ad hp tx cI cB B) z) H → va_D A ((ql_sw h ad hp tx cI cB B) z) → va_S A s.heap H locs → lv_has ls 7 [(0, .ref h), (1, .ref tx), (2, .int x2), (3, .int x3), (4, .int x4)] → W p l e rm_X7_scan s m args below meth c H locs 0 0 (ql_Qv below (dC, dI) (ql_sw h ad hp tx cI cB B) A args s res) (F0 m 5 ls [])) : ∀ (z : ql_St) (x2 : Int32) (x3 : Int32) (x4 : Int32) (x5 : Int32), f_X7_scan_54 N B k5 z x2 x3 x4 x5 = some res → ∀ (H : Heap) (locs : List Loc) (ls : Array Slot), va_P (dC, dI) vwCl ((ql_sw h ad hp tx cI cB B) z) H → va_D A ((ql_sw h ad hp tx cI cB B) z) → va_S A s.heap H locs → lv_has ls 7 [(0, .ref h), (1, .ref tx), (2, .int x2), (3, .int x3), (4, .int x4), (5, .int x5)] → W p l e rm_X7_scan s m args below meth c H locs 0 0 (ql_Qv below (dC, dI) (ql_sw h ad hp tx cI cB B) A args s res) (F0 m 54 ls []) := by
  have C0q := C0
  obtain ⟨hx, hb, hr, hml, hown, hts, hlocks, hK, hA⟩ := C0q
  intro z x2 x3 x4 x5 hf H locs ls hP hD hS hl
  unfold f_X7_scan_54 at hf
  refine lv_iconst (v := 0) hx hb dX7_scan_54 (by decide) ?_
  exact w_X7_scan_55 C0 N B hE k5 hk5 _ _ _ _ _ _ hf _ _ _ hP hD hS (lv_sub hl [0, 1, 2, 3, 4, 5] rfl)
set_option maxHeartbeats 4000000 in
set_option maxRecDepth 100000 in
theorem w_X7_scan_5 {p : Program} {l : Launch} {e : Env} {s : State} {m : MethodId} {args : Array Value} {below : List Frame} {meth : Method} {c : Code} {dC : Nat → ClassId} {dI : Nat → Nat → Nat} {A : Nat → Prop} {adK adV : Nat → Nat} {h : Nat} {ad : Nat → Nat} {hp tx : Nat} {cI cB : ClassId} {res : ql_St} (C0 : ql_C p s m args meth c cX7_scan 7 none wsX7_scan RX7 (dC, dI) [(cI, .int), (cB, .byte)] A) (N : Nat) (B : Nat → Int32) (hE : ql_E adK adV A s s.heap) : ∀ (n : Nat), ∀ (z : ql_St) (x2 : Int32) (x3 : Int32) (x4 : Int32), f_X7_scan_5 N B n z x2 x3 x4 = some res → ∀ (H : Heap) (locs : List Loc) (ls : Array Slot), va_P (dC, dI) vwCl ((ql_sw h ad hp tx cI cB B) z) H → va_D A ((ql_sw h ad hp tx cI cB B) z) → va_S A s.heap H locs → lv_has ls 7 [(0, .ref h), (1, .ref tx), (2, .int x2), (3, .int x3), (4, .int x4)] → W p l e rm_X7_scan s m args below meth c H locs 0 0 (ql_Qv below (dC, dI) (ql_sw h ad hp tx cI cB B) A args s res) (F0 m 5 ls []) := by
  have C0q := C0
  obtain ⟨hx, hb, hr, hml, hown, hts, hlocks, hK, hA⟩ := C0q
  have fl9 := hts (Cond.fieldLink RX7 9 "TestedLoops$Reader" "tokens" "[I") (by decide +kernel)
  have fl15 := hts (Cond.fieldLink RX7 15 "TestedLoops$Reader" "begins" "[I") (by decide +kernel)
  intro n
  induction n with
  | zero =>
    intro z x2 x3 x4 hf
    rw [f_X7_scan_5] at hf
    cases hf
  | succ n ih =>
    intro z x2 x3 x4 hf H locs ls hP hD hS hl
    rw [f_X7_scan_5] at hf
    refine lv_iload hx hb dX7_scan_5 (lv_at hl 4 rfl) ?_
    refine lv_iload_n hx hb dX7_scan_7 rfl (lv_at hl 2 rfl) ?_
    refine lv_icmp_ge (tgt := 121) hx hb dX7_scan_8 (by decide) (fun c8 => ?_) (fun c8 => ?_)
    · have hf := (if_pos c8).symm.trans hf
      refine lv_aload_n hx hb dX7_scan_121 rfl (lv_at hl 0 rfl) ?_
      refine va_get (D := (dC, dI)) (ci := 7) (v := .ref (ad 0)) (C := RX7) (T := TX7) (N := 5) hx hb hts iw_X7_scan_X7 hown hK.1 hP 0 rfl rfl 0 (by decide) fl9 (fun _ h9 => h9) rfl dX7_scan_122 ?_
      refine lv_iload_n hx hb dX7_scan_125 rfl (lv_at hl 3 rfl) ?_
      refine lv_bipush (v := 23) hx hb dX7_scan_126 (by decide) ?_
      have g0 := ql_in (ql_gt hf)
      have hf := ql_gx hf
      refine va_iast (f := (z 0)) hx hb hK.1 hP hD hS 1 0 rfl rfl g0 dX7_scan_128 (fun H locs hP hD hS => ?_)
      refine lv_aload_n hx hb dX7_scan_129 rfl (lv_at hl 0 rfl) ?_
      refine va_get (D := (dC, dI)) (ci := 7) (v := .ref (ad 1)) (C := RX7) (T := TX7) (N := 5) hx hb hts iw_X7_scan_X7 hown hK.1 hP 0 rfl rfl 1 (by decide) fl15 (fun _ h9 => h9) rfl dX7_scan_130 ?_
      refine lv_iload_n hx hb dX7_scan_133 rfl (lv_at hl 3 rfl) ?_
      refine lv_iload_n hx hb dX7_scan_134 rfl (lv_at hl 2 rfl) ?_
      have g0 := ql_in (ql_gt hf)
      have hf := ql_gx hf
      refine va_iast (f := (z 1)) hx hb hK.1 hP hD hS 2 0 rfl rfl g0 dX7_scan_135 (fun H locs hP hD hS => ?_)
      exact ql_vret C0 hf hP hD hS dX7_scan_136
    · have hf := (if_neg c8).symm.trans hf
      refine lv_aload_n hx hb dX7_scan_11 rfl (lv_at hl 1 rfl) ?_
      refine lv_iload hx hb dX7_scan_12 (lv_at hl 4 rfl) ?_
      have g0 := ql_in (ql_gt hf)
      have hf := ql_gx hf
      refine va_bald (f := B) hx hb hK.1 hP 3 1 rfl rfl g0 dX7_scan_14 ?_
      refine lv_sipush (v := 255) hx hb dX7_scan_15 (by decide) ?_
      refine lv_iand hx hb dX7_scan_18 ?_
      refine lv_istore (lv' := [(5, .int ((B x4.toNatClampNeg) &&& 255)), (0, .ref h), (1, .ref tx), (2, .int x2), (3, .int x3), (4, .int x4)]) hx hb dX7_scan_19 hl (by decide) rfl (fun ls hl => ?_)
      refine lv_iload hx hb dX7_scan_21 (lv_at hl 0 rfl) ?_
      obtain ⟨u9, hu9, hf⟩ := ql_bd hf
      refine ql_callRSi (As := [.int ((B x4.toNatClampNeg) &&& 255)]) (rest := []) C0 (c_X7_isLetter l dC dI N ((B x4.toNatClampNeg) &&& 255) u9 hu9) (va_cwS 1 hts gX7_scan_X7_isLetter rfl rfl rfl qd_X7_isLetter ⟨Nat.le_of_ble_eq_true rfl, Nat.le_of_ble_eq_true rfl⟩) (hK.sub [] rfl) ql_nil hS hl.1 rfl rfl (Nat.le_of_ble_eq_true rfl) dX7_scan_23 (fun H1 locs hk hS => ?_)
      have hP := ql_keep hP hk
      refine lv_if_eq (tgt := 54) hx hb dX7_scan_26 (by decide) (fun c10 => ?_) (fun c10 => ?_)
      · have hf := (if_pos c10).symm.trans hf
        exact w_X7_scan_54 C0 N B hE (f_X7_scan_5 N B n) ih _ _ _ _ _ hf _ _ _ hP hD hS (lv_sub hl [1, 2, 3, 4, 5, 0] rfl)
      · have hf := (if_neg c10).symm.trans hf
        refine lv_iload hx hb dX7_scan_29 (lv_at hl 5 rfl) ?_
        refine lv_if_le (tgt := 54) hx hb dX7_scan_31 (by decide) (fun c11 => ?_) (fun c11 => ?_)
        · have hf := (if_pos c11).symm.trans hf
          exact w_X7_scan_54 C0 N B hE (f_X7_scan_5 N B n) ih _ _ _ _ _ hf _ _ _ hP hD hS (lv_sub hl [1, 2, 3, 4, 5, 0] rfl)
        · have hf := (if_neg c11).symm.trans hf
          refine lv_aload_n hx hb dX7_scan_34 rfl (lv_at hl 2 rfl) ?_
          refine lv_iload hx hb dX7_scan_35 (lv_at hl 5 rfl) ?_
          refine lv_iconst (v := 1) hx hb dX7_scan_37 (by decide) ?_
          refine lv_isub hx hb dX7_scan_38 ?_
          have g0 := ql_in (ql_gt hf)
          have hf := ql_gx hf
          refine va_bald (f := B) hx hb hK.1 hP 3 1 rfl rfl g0 dX7_scan_39 ?_
          refine lv_sipush (v := 255) hx hb dX7_scan_40 (by decide) ?_
          refine lv_iand hx hb dX7_scan_43 ?_
          obtain ⟨u12, hu12, hf⟩ := ql_bd hf
          refine ql_callRSi (As := [.int ((B (x4 - 1).toNatClampNeg) &&& 255)]) (rest := []) C0 (c_X7_isLetter l dC dI N ((B (x4 - 1).toNatClampNeg) &&& 255) u12 hu12) (va_cwS 1 hts gX7_scan_X7_isLetter rfl rfl rfl qd_X7_isLetter ⟨Nat.le_of_ble_eq_true rfl, Nat.le_of_ble_eq_true rfl⟩) (hK.sub [] rfl) ql_nil hS hl.1 rfl rfl (Nat.le_of_ble_eq_true rfl) dX7_scan_44 (fun H1 locs hk hS => ?_)
          have hP := ql_keep hP hk
          refine lv_if_eq (tgt := 54) hx hb dX7_scan_47 (by decide) (fun c13 => ?_) (fun c13 => ?_)
          · have hf := (if_pos c13).symm.trans hf
            exact w_X7_scan_54 C0 N B hE (f_X7_scan_5 N B n) ih _ _ _ _ _ hf _ _ _ hP hD hS (lv_sub hl [1, 2, 3, 4, 5, 0] rfl)
          · have hf := (if_neg c13).symm.trans hf
            refine lv_iconst (v := 1) hx hb dX7_scan_50 (by decide) ?_
            refine lv_goto (tgt := 55) hx hb dX7_scan_51 (by decide) ?_
            exact w_X7_scan_55 C0 N B hE (f_X7_scan_5 N B n) ih _ _ _ _ _ _ hf _ _ _ hP hD hS (lv_sub hl [1, 2, 3, 4, 5, 0] rfl)
set_option maxHeartbeats 4000000 in
set_option maxRecDepth 100000 in
theorem w_X7_scan_0 {p : Program} {l : Launch} {e : Env} {s : State} {m : MethodId} {args : Array Value} {below : List Frame} {meth : Method} {c : Code} {dC : Nat → ClassId} {dI : Nat → Nat → Nat} {A : Nat → Prop} {adK adV : Nat → Nat} {h : Nat} {ad : Nat → Nat} {hp tx : Nat} {cI cB : ClassId} {res : ql_St} (C0 : ql_C p s m args meth c cX7_scan 7 none wsX7_scan RX7 (dC, dI) [(cI, .int), (cB, .byte)] A) (N : Nat) (B : Nat → Int32) (hE : ql_E adK adV A s s.heap) : ∀ (z : ql_St) (x2 : Int32), f_X7_scan_0 N B z x2 = some res → ∀ (H : Heap) (locs : List Loc) (ls : Array Slot), va_P (dC, dI) vwCl ((ql_sw h ad hp tx cI cB B) z) H → va_D A ((ql_sw h ad hp tx cI cB B) z) → va_S A s.heap H locs → lv_has ls 7 [(0, .ref h), (1, .ref tx), (2, .int x2)] → W p l e rm_X7_scan s m args below meth c H locs 0 0 (ql_Qv below (dC, dI) (ql_sw h ad hp tx cI cB B) A args s res) (F0 m 0 ls []) := by
  have C0q := C0
  obtain ⟨hx, hb, hr, hml, hown, hts, hlocks, hK, hA⟩ := C0q
  intro z x2 hf H locs ls hP hD hS hl
  unfold f_X7_scan_0 at hf
  refine lv_iconst (v := 0) hx hb dX7_scan_0 (by decide) ?_
  refine lv_istore_n (lv' := [(3, .int 0), (0, .ref h), (1, .ref tx), (2, .int x2)]) hx hb dX7_scan_1 rfl hl (by decide) rfl (fun ls hl => ?_)
  refine lv_iconst (v := 0) hx hb dX7_scan_2 (by decide) ?_
  refine lv_istore (lv' := [(4, .int 0), (3, .int 0), (0, .ref h), (1, .ref tx), (2, .int x2)]) hx hb dX7_scan_3 hl (by decide) rfl (fun ls hl => ?_)
  exact w_X7_scan_5 C0 N B hE N _ _ _ _ hf _ _ _ hP hD hS (lv_sub hl [2, 3, 4, 1, 0] rfl)
set_option maxRecDepth 100000 in
theorem c_X7_scan (l : Launch) (dC : Nat → ClassId) (dI : Nat → Nat → Nat) (adK adV : Nat → Nat) (h : Nat) (ad : Nat → Nat) (hp tx : Nat) (cI cB : ClassId) (N : Nat) (B : Nat → Int32) (z : ql_St) (x2 : Int32) (res : ql_St) (hf : f_X7_scan N B z x2 = some res) : ql_MvE adK adV l yX7_scan wsX7_scan rm_X7_scan (dC, dI) [(cI, .int), (cB, .byte)] (ql_sw h ad hp tx cI cB B) [.ref h, .ref tx, .int x2] z res :=
  ql_start_vE (by decide) rfl (Nat.le_of_ble_eq_true rfl) (fun p e s m below meth c A ls C0 hl hP hD hS hE => w_X7_scan_0 C0 N B hE z x2 hf s.heap [] ls hP hD hS (lv_sub (show lv_has ls 7 [(0, .ref h), (1, .ref tx), (2, .int x2)] from hl) [0, 1, 2] rfl))
