/-! a method that answers a reference -/
def ql_Mr (l : Launch) (y : MethodName) (ws : List Cond) (rm : Room) (D : va_G) (tys : List (ClassId × FieldType)) {σ : Type} (w : σ → va_W) (av : List Value) (u : σ) (ra : Nat) (res : σ) : Prop :=
  ∀ sz : Nat, Met l y ws rm (ql_Pre D tys (w u) av sz) (va_Qr (fun u' => u' = res) (fun u' a t => a = ra ∧ ql_B D w (va_A (w u) sz) u' t) (va_A (w u) sz)) 0 0 (va_A (w u) sz)
abbrev ql_Qa (below : List Frame) (D : va_G) {σ : Type} (w : σ → va_W) (A : Nat → Prop) (args : Array Value) (s : State) (ra : Nat) (res : σ) : State → Prop := MQ below (va_Qr (fun u' => u' = res) (fun u' a t => a = ra ∧ ql_B D w A u' t) A) args s 0 0 A
section QLEA
variable {l : Launch} {y : MethodName} {ws ws' : List Cond} {rm : Room} {D : va_G} {tys : List (ClassId × FieldType)} {σ : Type} {w : σ → va_W} {wr : va_W} {av : List Value} {u : σ} {cc : ByteArray} {maxL : Nat} {ret : Option FieldType}
theorem ql_start_a {ra : Nat} {res : σ} (hy : plainName y.cls = true) (hw : ws = Cond.code y cc maxL ret :: ws') (hlen : (lg_sl av).length ≤ maxL)
    (body : ∀ (p : Program) (e : Env) (s : State) (m : MethodId) (below : List Frame) (meth : Method) (c : Code) (A : Nat → Prop) (ls : Array Slot), ql_C p s m av.toArray meth c cc maxL ret ws y.cls D tys A → lv_has ls maxL (lv_args 0 av) → va_P D vwCl (w u) s.heap → va_D A (w u) → va_S A s.heap s.heap [] →
      W p l e rm s m av.toArray below meth c s.heap [] 0 0 (ql_Qa below D w A av.toArray s ra res) (F0 m 0 ls [])) : ql_Mr l y ws rm D tys w av u ra res := by
  intro sz
  refine Met.ofW (cc := cc) (maxL := maxL) (ret := ret) hy hw ?_
  intro p e s m args below meth c s₁ B hml hv
  obtain ⟨rfl, hsz, hP, hK, hD0⟩ := hv
  subst hsz
  rw [lg_entry_eq]
  exact body p e s m below meth c _ _ ⟨B.exec, B.bytes, B.returns, hml, findClass_of_methodNamed B.named, atoms_spec (ws := ws) B.pre, B.notSynchronized, hK, fun q h => Or.inr h⟩ (lv_entry av hlen) hP hD0.self va_S.rf
end QLEA
section QLWA
variable {p : Program} {l : Launch} {e : Env} {R : Room} {s : State} {m : MethodId} {args : Array Value} {below : List Frame} {meth : Method} {c : Code} {H : Heap} {locs : List Loc}
variable {cc : ByteArray} {pc maxL : Nat} {ret : Option FieldType} {ws : List Cond} {own : String} {D : va_G} {tys : List (ClassId × FieldType)} {A : Nat → Prop} {ls : Array Slot} {σ : Type} {w : σ → va_W}
theorem ql_aret {u : σ} {ra : Nat} {cn : String} (C0 : ql_C p s m args meth c cc maxL (some (.object cn)) ws own D tys A) (hP : va_P D vwCl (w u) H) (hD : va_D A (w u)) (hS : va_S A s.heap H locs) (hdg : decode cc pc = .ok (.areturn, 1)) :
    W p l e R s m args below meth c H locs 0 0 (ql_Qa below D w A args s ra u) (F0 m pc ls [.ref ra]) := by
  obtain ⟨hx, hb, hr, hml, hown, hts, hlocks, hK, hA⟩ := C0
  exact W.aret hx hb hr (Or.inl ⟨cn, rfl⟩) (Or.inr ⟨ra, rfl⟩) (fun t ht hW => ⟨⟨u, ra, rfl, rfl, rfl, by rw [ht]; exact hP, hD⟩, hS.F ht⟩) hS.2.2 hdg
variable {Q : State → Prop} {y : MethodName} {bytes : ByteArray} {maxL' index n : Nat} {ret' : Option FieldType} {ws' : List Cond} {rm' : Room} {Cn : String} {b : Addr} {As rest st0 : List Value} {u : σ} {wr : va_W} {tys' : List (ClassId × FieldType)}
theorem ql_subVr {ra : Nat} {σ' : Type} {w' : σ' → va_W} {u' : σ'} {res : σ'} {wc wr : va_W} (C0 : ql_C p s m args meth c cc maxL ret ws own D tys A) (hM : ql_Mr l y ws' rm' D tys' w' (.ref b :: As) u' ra res) (cw : CallW R s args own Cn index y bytes maxL' ret' ws' rm' 0 0 n) (hKr : ql_K D tys' s)
    (isC isR : List Nat) (hC : isC.map (fun i => wc[i]?) = (w' u').map some) (hR : isR.map (fun i => wc[i]?) = wr.map some) (hnC : va_nd isC = true) (hnR : va_nd isR = true) (hdis : ∀ i ∈ isR, i ∉ isC)
    (hrc : ∃ cell : Cell, H[b]? = some cell ∧ cell.vm.isStatics = false ∧ s.vm.findClass Cn = some cell.cls) (hP : va_P D vwCl wc H) (hD : va_D A wc) (hS : va_S A s.heap H locs) (hl : ls.size = maxL) (hn : As.length = n) (hst : st0 = As.reverse ++ .ref b :: rest) (hroom : (rest.map fun v => v.category).sum ≤ 8) (hdg : decode cc pc = .ok (.invokevirtual index, 3))
    (kk : ∀ (H1 : Heap) (locs1 : List Loc), va_P D vwCl (wr ++ w' res) H1 → va_D A (wr ++ w' res) → va_S A s.heap H1 locs1 → W p l e R s m args below meth c H1 locs1 0 0 Q (F0 m (pc + 3) ls (.ref ra :: rest))) : W p l e R s m args below meth c H locs 0 0 Q (F0 m pc ls st0) := by
  obtain ⟨hx, hb, hr, hml, hown, hts, hlocks, hK, hA⟩ := C0
  have hPc := hP.sub isC (ql_fm _ _ hC)
  have hDc := hD.sub isC hnC hC
  have hFc := va_free (wc := w' u') hD hS hA isC hC
  refine va_callr (va_runV (As := As) (rest := rest) ⟨hx, hb, hml, hown, hts⟩ (hM H.size) cw ⟨ql_Pre.blind, hrc, fun U hU hW => ⟨rfl, by rw [hU], by rw [hU]; exact hPc, hKr.warm hW, hDc.weaken (fun _ _ _ _ => trivial)⟩⟩ rfl hn hl hst (lv_room hroom) hdg ⟨Nat.zero_le _, Nat.zero_le _⟩) hS (fun q _ h => hFc q h) hFc (fun u1 rb t H1 locs ht hvm hw hB hz1 hk1 hS => ?_)
  subst hw
  obtain ⟨hrb, hP1, hD1⟩ := hB
  subst hrb
  rw [ht] at hP1
  obtain ⟨hP, hD⟩ := va_join hP hD isC isR hC hR hnR hdis hk1 hFc hP1 hD1
  exact kk H1 _ hP hD hS
end QLWA
def ql_hw (h : Nat) (ad : Nat → Nat) (S : ql_St) (x : Nat) : va_W := [(h, .inr (7, [.ref (ad 0), .ref (ad 1), .int (S 2 0), .int (S 3 0), .ref x]))]
abbrev rm_X7_giveFor : Room := { frames := 0, cells := 0, slots := 0, locals := 0 }
theorem iw_X7_giveFor_X7 : ∀ w ∈ wsX70, w ∈ wsX7_giveFor := fun w h => List.mem_cons_of_mem _ (List.mem_append_right _ h)
theorem qv_X7_giveFor : yX7_giveFor.cls = RX7 ∧ yX7_giveFor.cls ≠ "java/lang/invoke/MethodHandle" ∧ yX7_giveFor.cls ≠ "java/lang/invoke/VarHandle" ∧ (parseMethodDescriptor yX7_giveFor.desc).map (fun d => d.parameters.length) = some 1 := by decide +kernel
set_option maxHeartbeats 4000000 in
set_option maxRecDepth 100000 in
theorem c_X7_giveFor (l : Launch) (dC : Nat → ClassId) (dI : Nat → Nat → Nat) (h : Nat) (ad : Nat → Nat) (S : ql_St) (x y : Nat) : ql_Mr l yX7_giveFor wsX7_giveFor rm_X7_giveFor (dC, dI) [] (ql_hw h ad S) [.ref h, .ref y] x x y := by
  refine ql_start_a (by decide) rfl (Nat.le_of_ble_eq_true rfl) (fun p e s m below meth c A ls C0 hl hP hD hS => ?_)
  have C0q := C0
  obtain ⟨hx1, hb, hr1, hml, hown, hts, hlocks, hK, hA⟩ := C0q
  have hl : lv_has ls 3 [(0, .ref h), (1, .ref y)] := hl
  have fl := hts (Cond.fieldLink RX7 21 "TestedLoops$Reader" "plan" "LTestedLoops$Plan;") (by decide +kernel)
  refine lv_aload_n hx1 hb dX7_giveFor_0 rfl (lv_at hl 0 rfl) ?_
  refine va_get (D := (dC, dI)) (ci := 7) (v := .ref x) (C := RX7) (T := TX7) (N := 5) hx1 hb hts iw_X7_giveFor_X7 hown hK.1 hP 0 rfl rfl 4 (by decide) fl (fun _ h9 => h9) rfl dX7_giveFor_1 ?_
  refine lv_astore_n (lv' := [(2, .ref x), (0, .ref h), (1, .ref y)]) hx1 hb dX7_giveFor_4 rfl hl (by decide) rfl (fun ls hl => ?_)
  refine lv_aload_n hx1 hb dX7_giveFor_5 rfl (lv_at hl 1 rfl) ?_
  refine lv_aload_n hx1 hb dX7_giveFor_6 rfl (lv_at hl 2 rfl) ?_
  refine va_put (D := (dC, dI)) (ci := 7) (v := .ref y) (ty := .object "TestedLoops$Plan") (C := RX7) (T := TX7) (N := 5) hx1 hb hts iw_X7_giveFor_X7 tyX7 tyX7_ok nmX7 hown hK.1 hP hD hS 0 rfl rfl 4 (by decide) fl (fun _ h9 => h9) rfl (by decide +kernel) rfl rfl (Nat.le_of_ble_eq_true rfl) dX7_giveFor_7 (fun H locs hP hD hS => ?_)
  refine lv_aload_n hx1 hb dX7_giveFor_10 rfl (lv_at hl 0 rfl) ?_
  exact ql_aret (w := ql_hw h ad S) C0 hP hD hS dX7_giveFor_11
abbrev ql_U : Type := ql_V × (Nat → ql_St) × (Nat → Nat → Nat)
def ql_cu (h : Nat) (ad : Nat → Nat) (aR : Nat) (adr : Nat → Nat) (aG : Nat) (adg : Nat → Nat) (aX : Nat) (adx : Nat → Nat) (aT : Nat) (kd : Nat → Nat) (cI cJ cB cP cQ : ClassId) (u : ql_U) : va_W := ql_cw h ad aR adr aG adg aX adx aT kd cI cJ cB cP cQ u.2.2 u.2.1 u.1
def ql_pu (P : Nat → ql_St) (k : Nat) (x : ql_St) : Nat → ql_St := fun j => cond (Nat.beq j k) x (P j)
def ql_w4 {α : Type} (f : Nat → α) (i : Nat) : Nat → α := fun k => cond (Nat.beq k i) (f 4) (cond (Nat.beq k 4) (f i) (f k))
theorem ql_pf_w4 {pad : Nat → Nat → Nat} {j : Nat} (hj : j < 4) : va_up (ql_pf pad) j (some (pad 4 100)) = ql_pf (ql_w4 pad j) := by
  funext k
  by_cases hk : k < 4
  · rcases (by omega : j = 0 ∨ j = 1 ∨ j = 2 ∨ j = 3) with rfl | rfl | rfl | rfl <;> rcases (by omega : k = 0 ∨ k = 1 ∨ k = 2 ∨ k = 3) with rfl | rfl | rfl | rfl <;> rfl
  · have h1 : ¬ k = j := by omega
    have h2 : Nat.blt k 4 = false := by
      cases hb : Nat.blt k 4 with
      | false => rfl
      | true => exact absurd (Nat.blt_eq.mp hb) hk
    simp [va_up, h1, ql_pf, h2]
def f_X10_program (N : Nat) (u : ql_U) (x1 : Int32) : Option (Int32 × ql_U) :=
  (f_X10_isProgram N x1).bind fun a => if a = 0 then some ((-1), u) else
  (f_X7_read N (u.2.2 4 100) (u.1.1 0) (u.1.2.2.1, u.2.1 4) (u.1.1 1 0)).bind fun b =>
  if b.1 = (-1) then (if ql_ib x1 4 = true then some ((b.2.2 6 0), (((ql_up u.1.1 1 (fun _ => 0)), u.1.2.1, b.2.1, u.1.2.2.2), ql_w4 (ql_pu u.2.1 4 b.2.2) x1.toNatClampNeg, ql_w4 u.2.2 x1.toNatClampNeg)) else none)
  else some (((-10) - b.1), ((u.1.1, u.1.2.1, b.2.1, u.1.2.2.2), ql_pu u.2.1 4 b.2.2, u.2.2))
abbrev rm_X10_program : Room := { frames := 333, cells := 0, slots := 0, locals := 7566 }
theorem qv_X10_program : yX10_program.cls = RX10 ∧ yX10_program.cls ≠ "java/lang/invoke/MethodHandle" ∧ yX10_program.cls ≠ "java/lang/invoke/VarHandle" ∧ (parseMethodDescriptor yX10_program.desc).map (fun d => d.parameters.length) = some 1 := by decide +kernel
theorem iw_X10_program_X10 : ∀ w ∈ wsX100, w ∈ wsX10_program := fun w h => List.mem_cons_of_mem _ (List.mem_append_left _ (List.mem_append_left _ (List.mem_append_right _ h)))
theorem iw_X10_program_X6 : ∀ w ∈ wsX60, w ∈ wsX10_program := fun w h => List.mem_cons_of_mem _ (List.mem_append_left _ (List.mem_append_right _ h))
theorem iw_X10_program_X7 : ∀ w ∈ wsX70, w ∈ wsX10_program := fun w h => List.mem_cons_of_mem _ (List.mem_append_right _ h)
set_option maxHeartbeats 8000000 in
set_option maxRecDepth 100000 in
theorem c_X10_program (l : Launch) (dC : Nat → ClassId) (dI : Nat → Nat → Nat) (adK adV : Nat → Nat) (h : Nat) (ad : Nat → Nat) (aR : Nat) (adr : Nat → Nat) (aG : Nat) (adg : Nat → Nat) (aX : Nat) (adx : Nat → Nat) (aT : Nat) (kd : Nat → Nat) (cI cJ cB cP cQ : ClassId) (N : Nat) (u : ql_U) (x1 : Int32) (res : Int32 × ql_U) (hf : f_X10_program N u x1 = some res) : ql_MiE adK adV l yX10_program wsX10_program rm_X10_program (dC, dI) [(cI, .int), (cJ, .long), (cB, .byte), (cP, .object RX6), (cQ, .object RX5)] (ql_cu h ad aR adr aG adg aX adx aT kd cI cJ cB cP cQ) [.ref h, .int x1] u res := by
  refine ql_start_iE (by decide) rfl (Nat.le_of_ble_eq_true rfl) (fun p e s m below meth c A ls C0 hl hP hD hS hE => ?_)
  have C0q := C0
  obtain ⟨hx1, hb, hr1, hml, hown, hts, hlocks, hK, hA⟩ := C0q
  have hl : lv_has ls 3 [(0, .ref h), (1, .int x1)] := hl
  unfold f_X10_program at hf
  refine lv_iload_n hx1 hb dX10_program_0 rfl (lv_at hl 1 rfl) ?_
  obtain ⟨a, ha, hf⟩ := ql_bd hf
  refine ql_callRSi (As := [.int x1]) (rest := []) C0 (c_X10_isProgram l dC dI N x1 a ha) (va_cwS 1 hts gX10_program_X10_isProgram rfl rfl rfl qd_X10_isProgram ⟨Nat.le_of_ble_eq_true rfl, Nat.le_of_ble_eq_true rfl⟩) (hK.sub [] rfl) ql_nil hS hl.1 rfl rfl (Nat.le_of_ble_eq_true rfl) dX10_program_1 (fun H1 locs hk hS => ?_)
  have hP := ql_keep hP hk
  refine lv_if_ne (tgt := 9) hx1 hb dX10_program_4 (by decide) (fun c1 => ?_) (fun c1 => ?_)
  · have hf := (if_neg c1).symm.trans hf
    refine lv_aload_n hx1 hb dX10_program_9 rfl (lv_at hl 0 rfl) ?_
    refine va_get (D := (dC, dI)) (ci := 10) (v := .ref aR) (C := RX10) (T := TX10) (N := 13) hx1 hb hts iw_X10_program_X10 hown hK.1 hP 0 rfl rfl 3 (by decide) (hts (Cond.fieldLink RX10 22 "TestedLoops" "reader" "LTestedLoops$Reader;") (by decide +kernel)) (fun _ h9 => h9) rfl dX10_program_10 ?_
    refine lv_aload_n hx1 hb dX10_program_13 rfl (lv_at hl 0 rfl) ?_
    refine va_get (D := (dC, dI)) (ci := 10) (v := .ref (ad 0)) (C := RX10) (T := TX10) (N := 13) hx1 hb hts iw_X10_program_X10 hown hK.1 hP 0 rfl rfl 0 (by decide) (hts (Cond.fieldLink RX10 9 "TestedLoops" "text" "[B") (by decide +kernel)) (fun _ h9 => h9) rfl dX10_program_14 ?_
    refine lv_aload_n hx1 hb dX10_program_17 rfl (lv_at hl 0 rfl) ?_
    refine va_get (D := (dC, dI)) (ci := 10) (v := .int (u.1.1 1 0)) (C := RX10) (T := TX10) (N := 13) hx1 hb hts iw_X10_program_X10 hown hK.1 hP 0 rfl rfl 1 (by decide) (hts (Cond.fieldLink RX10 78 "TestedLoops" "length" "I") (by decide +kernel)) (fun _ h9 => h9) rfl dX10_program_18 ?_
    obtain ⟨b, hb2, hf⟩ := ql_bd hf
    refine ql_subViE (wr := [(h, .inr (10, [.ref (ad 0), .int (u.1.1 1 0), .ref (ad 2), .ref aR, .ref aX, .ref aG, .ref (ad 7), .ref aT, .ref (ad 9), .ref (ad 10), .ref (ad 11), .int (u.1.1 12 0), .int (u.1.1 13 0)])), (ad 2, .inl (cP, 4, .inr (.inr (.inr (.inr (ql_pf u.2.2)))))), (ad 7, .inl (cQ, 5, .inr (.inr (.inr (.inr (ql_kf kd)))))), (ad 9, .inl (cI, 13, .inl (u.1.1 9))), (ad 10, .inl (cJ, 17, .inr (.inl (u.1.2.1 10)))), (ad 11, .inl (cJ, 17, .inr (.inl (u.1.2.1 11)))), (aT, .inr (8, [.long (u.1.2.1 100 0)])), (kd 0, .inr (5, [])), (kd 1, .inr (0, [])), (kd 2, .inr (1, [])), (kd 3, .inr (3, [])), (kd 4, .inr (9, []))] ++ (ql_gc aG adg cI u.1.2.2.2.1 ++ (ql_xc aX adx cI cJ u.1.2.2.2.2 ++ (ql_pw (u.2.2 0 100) (u.2.2 0) cI (u.2.1 0) ++ (ql_pw (u.2.2 1 100) (u.2.2 1) cI (u.2.1 1) ++ (ql_pw (u.2.2 2 100) (u.2.2 2) cI (u.2.1 2) ++ ql_pw (u.2.2 3 100) (u.2.2 3) cI (u.2.1 3))))))) (As := [.ref (ad 0), .int (u.1.1 1 0)]) (rest := []) C0 hE (c_X7_read l dC dI adK adV aR adr (u.2.2 4) (ad 0) cI cB N (u.2.2 4 100) (u.1.1 0) (u.1.2.2.1, u.2.1 4) (u.1.1 1 0) b hb2) (cwV 2 hts gX10_program_X7_read rfl rfl rfl qv_X7_read ⟨Nat.le_of_ble_eq_true rfl, Nat.le_of_ble_eq_true rfl⟩) (hK.sub [0, 2] rfl) [13, 14, 15, 57, 58, 59, 60, 61, 62, 63, 64, 1] [0, 2, 3, 4, 5, 6, 7, 8, 9, 10, 11, 12, 16, 17, 18, 19, 20, 21, 22, 23, 24, 25, 26, 27, 28, 29, 30, 31, 32, 33, 34, 35, 36, 37, 38, 39, 40, 41, 42, 43, 44, 45, 46, 47, 48, 49, 50, 51, 52, 53, 54, 55, 56] rfl rfl rfl rfl (by decide) (va_recv hK.1 hP (ci := 7) (q0 := 13) rfl rfl) hP hD hS hl.1 rfl rfl (Nat.le_of_ble_eq_true rfl) dX10_program_21 (fun H locs hP hD hS => ?_)
    have hP : va_P (dC, dI) vwCl (ql_cu h ad aR adr aG adg aX adx aT kd cI cJ cB cP cQ ((u.1.1, u.1.2.1, b.2.1, u.1.2.2.2), ql_pu u.2.1 4 b.2.2, u.2.2)) _ := hP.sub [0, 64, 1, 2, 3, 4, 5, 6, 7, 8, 9, 10, 11, 53, 54, 55, 12, 13, 14, 15, 16, 17, 18, 19, 20, 21, 22, 23, 24, 25, 26, 27, 28, 29, 30, 31, 32, 33, 34, 35, 36, 37, 38, 39, 40, 41, 42, 43, 44, 45, 46, 47, 48, 49, 50, 51, 52, 56, 57, 58, 59, 60, 61, 62, 63] rfl
    have hD : va_D A (ql_cu h ad aR adr aG adg aX adx aT kd cI cJ cB cP cQ ((u.1.1, u.1.2.1, b.2.1, u.1.2.2.2), ql_pu u.2.1 4 b.2.2, u.2.2)) := hD.sub [0, 64, 1, 2, 3, 4, 5, 6, 7, 8, 9, 10, 11, 53, 54, 55, 12, 13, 14, 15, 16, 17, 18, 19, 20, 21, 22, 23, 24, 25, 26, 27, 28, 29, 30, 31, 32, 33, 34, 35, 36, 37, 38, 39, 40, 41, 42, 43, 44, 45, 46, 47, 48, 49, 50, 51, 52, 56, 57, 58, 59, 60, 61, 62, 63] (by decide) rfl
    refine lv_istore_n (lv' := [(2, .int b.1), (0, .ref h), (1, .int x1)]) hx1 hb dX10_program_24 rfl hl (by decide) rfl (fun ls hl => ?_)
    refine lv_iload_n hx1 hb dX10_program_25 rfl (lv_at hl 0 rfl) ?_
    refine lv_iconst (v := (-1)) hx1 hb dX10_program_26 (by decide) ?_
    refine lv_icmp_eq (tgt := 35) hx1 hb dX10_program_27 (by decide) (fun c2 => ?_) (fun c2 => ?_)
    · have hf := (if_pos c2).symm.trans hf
      have g0 := ql_in (ql_gt hf)
      have hf := ql_gx hf
      have gp := ql_lt g0
      refine lv_aload_n hx1 hb dX10_program_35 rfl (lv_at hl 1 rfl) ?_
      refine va_get (D := (dC, dI)) (ci := 10) (v := .ref (ad 2)) (C := RX10) (T := TX10) (N := 13) hx1 hb hts iw_X10_program_X10 hown hK.1 hP 0 rfl rfl 2 (by decide) (hts (Cond.fieldLink RX10 15 "TestedLoops" "plans" "[LTestedLoops$Plan;") (by decide +kernel)) (fun _ h9 => h9) rfl dX10_program_36 ?_
      refine lv_iload_n hx1 hb dX10_program_39 rfl (lv_at hl 2 rfl) ?_
      refine lv_aload_n hx1 hb dX10_program_40 rfl (lv_at hl 1 rfl) ?_
      refine va_get (D := (dC, dI)) (ci := 10) (v := .ref aR) (C := RX10) (T := TX10) (N := 13) hx1 hb hts iw_X10_program_X10 hown hK.1 hP 0 rfl rfl 3 (by decide) (hts (Cond.fieldLink RX10 22 "TestedLoops" "reader" "LTestedLoops$Reader;") (by decide +kernel)) (fun _ h9 => h9) rfl dX10_program_41 ?_
      refine lv_aload_n hx1 hb dX10_program_44 rfl (lv_at hl 1 rfl) ?_
      refine va_get (D := (dC, dI)) (ci := 10) (v := .ref (ad 2)) (C := RX10) (T := TX10) (N := 13) hx1 hb hts iw_X10_program_X10 hown hK.1 hP 0 rfl rfl 2 (by decide) (hts (Cond.fieldLink RX10 15 "TestedLoops" "plans" "[LTestedLoops$Plan;") (by decide +kernel)) (fun _ h9 => h9) rfl dX10_program_45 ?_
      refine lv_iload_n hx1 hb dX10_program_48 rfl (lv_at hl 2 rfl) ?_
      refine va_aldq (f := ql_pf u.2.2) hx1 hb hK.1 hP 2 3 rfl rfl g0 dX10_program_49 ?_
      refine W.eq (g2 := F0 m 50 ls [.ref (u.2.2 x1.toNatClampNeg 100), .ref aR, .int x1, .ref (ad 2)]) (by rw [ql_pfv gp]) ?_
      refine ql_subVr (wr := ql_cm h ad aR aG aX aT kd cI cJ cB cP cQ u.2.2 u.1.1 u.1.2.1 ++ ([(adr 0, .inl (cI, 301, .inl (b.2.1 0))), (adr 1, .inl (cI, 301, .inl (b.2.1 1)))] ++ (ql_gc aG adg cI u.1.2.2.2.1 ++ (ql_xc aX adx cI cJ u.1.2.2.2.2 ++ ql_pls u.2.2 cI (ql_pu u.2.1 4 b.2.2))))) (As := [.ref (u.2.2 x1.toNatClampNeg 100)]) (rest := [.int x1, .ref (ad 2)]) C0 (c_X7_giveFor l dC dI aR adr b.2.1 (u.2.2 4 100) (u.2.2 x1.toNatClampNeg 100)) (cwV 1 hts gX10_program_X7_giveFor rfl rfl rfl qv_X7_giveFor ⟨Nat.le_of_ble_eq_true rfl, Nat.le_of_ble_eq_true rfl⟩) (hK.sub [] rfl) [13] [0, 1, 2, 3, 4, 5, 6, 7, 8, 9, 10, 11, 12, 14, 15, 16, 17, 18, 19, 20, 21, 22, 23, 24, 25, 26, 27, 28, 29, 30, 31, 32, 33, 34, 35, 36, 37, 38, 39, 40, 41, 42, 43, 44, 45, 46, 47, 48, 49, 50, 51, 52, 53, 54, 55, 56, 57, 58, 59, 60, 61, 62, 63, 64] rfl rfl rfl rfl (by decide) (va_recv hK.1 hP (ci := 7) (q0 := 13) rfl rfl) hP hD hS hl.1 rfl rfl (Nat.le_of_ble_eq_true rfl) dX10_program_50 (fun H locs hP hD hS => ?_)
      have hP : va_P (dC, dI) vwCl (ql_cm h ad aR aG aX aT kd cI cJ cB cP cQ u.2.2 u.1.1 u.1.2.1 ++ (ql_rc aR adr (u.2.2 x1.toNatClampNeg 100) cI b.2.1 ++ (ql_gc aG adg cI u.1.2.2.2.1 ++ (ql_xc aX adx cI cJ u.1.2.2.2.2 ++ ql_pls u.2.2 cI (ql_pu u.2.1 4 b.2.2))))) _ := hP.sub [0, 1, 2, 3, 4, 5, 6, 7, 8, 9, 10, 11, 12, 64, 13, 14, 15, 16, 17, 18, 19, 20, 21, 22, 23, 24, 25, 26, 27, 28, 29, 30, 31, 32, 33, 34, 35, 36, 37, 38, 39, 40, 41, 42, 43, 44, 45, 46, 47, 48, 49, 50, 51, 52, 53, 54, 55, 56, 57, 58, 59, 60, 61, 62, 63] rfl
      have hD : va_D A (ql_cm h ad aR aG aX aT kd cI cJ cB cP cQ u.2.2 u.1.1 u.1.2.1 ++ (ql_rc aR adr (u.2.2 x1.toNatClampNeg 100) cI b.2.1 ++ (ql_gc aG adg cI u.1.2.2.2.1 ++ (ql_xc aX adx cI cJ u.1.2.2.2.2 ++ ql_pls u.2.2 cI (ql_pu u.2.1 4 b.2.2))))) := hD.sub [0, 1, 2, 3, 4, 5, 6, 7, 8, 9, 10, 11, 12, 64, 13, 14, 15, 16, 17, 18, 19, 20, 21, 22, 23, 24, 25, 26, 27, 28, 29, 30, 31, 32, 33, 34, 35, 36, 37, 38, 39, 40, 41, 42, 43, 44, 45, 46, 47, 48, 49, 50, 51, 52, 53, 54, 55, 56, 57, 58, 59, 60, 61, 62, 63] (by decide) rfl
      refine va_astq (f := ql_pf u.2.2) (r := (RX6, TX6, 10)) hx1 hb hK.1 hP hD hS 2 3 57 6 rfl rfl rfl rfl g0 dX10_program_53 (fun H locs hP hD hS => ?_)
      refine lv_aload_n hx1 hb dX10_program_54 rfl (lv_at hl 1 rfl) ?_
      refine lv_iconst (v := 0) hx1 hb dX10_program_55 (by decide) ?_
      refine va_put (D := (dC, dI)) (ci := 10) (v := .int 0) (ty := .int) (C := RX10) (T := TX10) (N := 13) hx1 hb hts iw_X10_program_X10 tyX10 tyX10_ok nmX10 hown hK.1 hP hD hS 0 rfl rfl 1 (by decide) (hts (Cond.fieldLink RX10 78 "TestedLoops" "length" "I") (by decide +kernel)) (fun _ h9 => h9) rfl (by decide +kernel) rfl rfl (Nat.le_of_ble_eq_true rfl) dX10_program_56 (fun H locs hP hD hS => ?_)
      refine lv_aload_n hx1 hb dX10_program_59 rfl (lv_at hl 1 rfl) ?_
      refine va_get (D := (dC, dI)) (ci := 10) (v := .ref (ad 2)) (C := RX10) (T := TX10) (N := 13) hx1 hb hts iw_X10_program_X10 hown hK.1 hP 0 rfl rfl 2 (by decide) (hts (Cond.fieldLink RX10 15 "TestedLoops" "plans" "[LTestedLoops$Plan;") (by decide +kernel)) (fun _ h9 => h9) rfl dX10_program_60 ?_
      refine lv_iload_n hx1 hb dX10_program_63 rfl (lv_at hl 2 rfl) ?_
      refine va_aldq (f := va_up (ql_pf u.2.2) x1.toNatClampNeg (some (u.2.2 4 100))) hx1 hb hK.1 hP 2 3 rfl rfl g0 dX10_program_64 ?_
      refine W.eq (g2 := F0 m 65 ls [.ref (u.2.2 4 100)]) (by simp [va_up, va_rf]) ?_
      refine va_get (D := (dC, dI)) (ci := 6) (v := .int (b.2.2 6 0)) (C := RX6) (T := TX6) (N := 10) hx1 hb hts iw_X10_program_X6 hown hK.1 (ql_pl (P := ql_pu u.2.1 4 b.2.2) (i := 4) (pad := u.2.2) (cI := cI) 25 hP rfl (by decide)) 0 rfl rfl 6 (by decide) (hts (Cond.fieldLink RX10 94 "TestedLoops$Plan" "places" "I") (by decide +kernel)) (fun _ h9 => h9) rfl dX10_program_65 ?_
      obtain ⟨j, hj⟩ : ∃ j, x1.toNatClampNeg = j := ⟨_, rfl⟩
      rw [hj] at hP hD hf gp
      rw [ql_pf_w4 gp] at hP hD
      rcases (by omega : j = 0 ∨ j = 1 ∨ j = 2 ∨ j = 3) with rfl | rfl | rfl | rfl
      · exact ql_iret C0 hf (hP.sub [0, 1, 2, 3, 4, 5, 6, 7, 8, 9, 10, 11, 12, 13, 14, 15, 16, 17, 18, 19, 20, 21, 22, 23, 24, 57, 58, 59, 60, 61, 62, 63, 64, 33, 34, 35, 36, 37, 38, 39, 40, 41, 42, 43, 44, 45, 46, 47, 48, 49, 50, 51, 52, 53, 54, 55, 56, 25, 26, 27, 28, 29, 30, 31, 32] rfl) (hD.sub [0, 1, 2, 3, 4, 5, 6, 7, 8, 9, 10, 11, 12, 13, 14, 15, 16, 17, 18, 19, 20, 21, 22, 23, 24, 57, 58, 59, 60, 61, 62, 63, 64, 33, 34, 35, 36, 37, 38, 39, 40, 41, 42, 43, 44, 45, 46, 47, 48, 49, 50, 51, 52, 53, 54, 55, 56, 25, 26, 27, 28, 29, 30, 31, 32] (by decide) rfl) hS dX10_program_68
      · exact ql_iret C0 hf (hP.sub [0, 1, 2, 3, 4, 5, 6, 7, 8, 9, 10, 11, 12, 13, 14, 15, 16, 17, 18, 19, 20, 21, 22, 23, 24, 25, 26, 27, 28, 29, 30, 31, 32, 57, 58, 59, 60, 61, 62, 63, 64, 41, 42, 43, 44, 45, 46, 47, 48, 49, 50, 51, 52, 53, 54, 55, 56, 33, 34, 35, 36, 37, 38, 39, 40] rfl) (hD.sub [0, 1, 2, 3, 4, 5, 6, 7, 8, 9, 10, 11, 12, 13, 14, 15, 16, 17, 18, 19, 20, 21, 22, 23, 24, 25, 26, 27, 28, 29, 30, 31, 32, 57, 58, 59, 60, 61, 62, 63, 64, 41, 42, 43, 44, 45, 46, 47, 48, 49, 50, 51, 52, 53, 54, 55, 56, 33, 34, 35, 36, 37, 38, 39, 40] (by decide) rfl) hS dX10_program_68
      · exact ql_iret C0 hf (hP.sub [0, 1, 2, 3, 4, 5, 6, 7, 8, 9, 10, 11, 12, 13, 14, 15, 16, 17, 18, 19, 20, 21, 22, 23, 24, 25, 26, 27, 28, 29, 30, 31, 32, 33, 34, 35, 36, 37, 38, 39, 40, 57, 58, 59, 60, 61, 62, 63, 64, 49, 50, 51, 52, 53, 54, 55, 56, 41, 42, 43, 44, 45, 46, 47, 48] rfl) (hD.sub [0, 1, 2, 3, 4, 5, 6, 7, 8, 9, 10, 11, 12, 13, 14, 15, 16, 17, 18, 19, 20, 21, 22, 23, 24, 25, 26, 27, 28, 29, 30, 31, 32, 33, 34, 35, 36, 37, 38, 39, 40, 57, 58, 59, 60, 61, 62, 63, 64, 49, 50, 51, 52, 53, 54, 55, 56, 41, 42, 43, 44, 45, 46, 47, 48] (by decide) rfl) hS dX10_program_68
      · exact ql_iret C0 hf (hP.sub [0, 1, 2, 3, 4, 5, 6, 7, 8, 9, 10, 11, 12, 13, 14, 15, 16, 17, 18, 19, 20, 21, 22, 23, 24, 25, 26, 27, 28, 29, 30, 31, 32, 33, 34, 35, 36, 37, 38, 39, 40, 41, 42, 43, 44, 45, 46, 47, 48, 57, 58, 59, 60, 61, 62, 63, 64, 49, 50, 51, 52, 53, 54, 55, 56] rfl) (hD.sub [0, 1, 2, 3, 4, 5, 6, 7, 8, 9, 10, 11, 12, 13, 14, 15, 16, 17, 18, 19, 20, 21, 22, 23, 24, 25, 26, 27, 28, 29, 30, 31, 32, 33, 34, 35, 36, 37, 38, 39, 40, 41, 42, 43, 44, 45, 46, 47, 48, 57, 58, 59, 60, 61, 62, 63, 64, 49, 50, 51, 52, 53, 54, 55, 56] (by decide) rfl) hS dX10_program_68
    · have hf := (if_neg c2).symm.trans hf
      refine lv_bipush (v := (-10)) hx1 hb dX10_program_30 (by decide) ?_
      refine lv_iload_n hx1 hb dX10_program_32 rfl (lv_at hl 0 rfl) ?_
      refine lv_isub hx1 hb dX10_program_33 ?_
      exact ql_iret C0 hf hP hD hS dX10_program_34
  · have hf := (if_pos c1).symm.trans hf
    refine lv_iconst (v := (-1)) hx1 hb dX10_program_7 (by decide) ?_
    exact ql_iret C0 hf hP hD hS dX10_program_8
