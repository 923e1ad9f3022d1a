/-! the law, from its entry -/
theorem lw_arr {args : Array Value} {s : State} {ty : FieldType} (hp : match ty with | .object _ => False | _ => True) (h : (Cond.arrayClass ty).before args s = true) : ∃ cA : ClassId, ArrOfT s cA ty ∧ va_RA s cA ty := by
  obtain ⟨cA, k, comp, h1, h2, h3⟩ := Cond.arrayClass_spec h
  refine ⟨cA, fun n z => ⟨fun k h => (by cases h), k, h2, comp, h3⟩, ?_⟩
  cases ty <;> first | exact h1 | exact absurd hp (fun x => x)
def lw_tm (i : Nat) : Term := if i = 0 then Term.string RX7 69 else Term.string RX7 77
def lw_el (i j : Nat) : Cond := Cond.eq (.elem (.field (lw_tm i) "java/lang/String" "value" "[B") (.int (Int32.ofNat j))) (.int ((ql_byt.getD i []).getD j 0))
set_option maxRecDepth 100000 in
theorem lw_el0 : ∀ j, j < 90 → lw_el 0 j ∈ flatC (Jvm.Cond.and given_1 narrow_1) := by decide +kernel
set_option maxRecDepth 100000 in
theorem lw_el1 : ∀ j, j < 8 → lw_el 1 j ∈ flatC (Jvm.Cond.and given_1 narrow_1) := by decide +kernel
set_option maxRecDepth 100000 in
theorem lw_E {args : Array Value} {s : State} (hts : ∀ w ∈ lw_tbl, w.before args s = true) (hgv : (Jvm.Cond.and given_1 narrow_1).before args s = true) : ∃ adK adV : Nat → Nat, ql_E adK adV (lw_A s) s s.heap := by
  have hs := flat_of_before _ hgv
  have hA : ∀ a : Nat, a < s.heap.size → ¬ lw_A s a := fun a h => Nat.not_le.mpr h
  have two : ∀ i, i < 2 → i = 0 ∨ i = 1 := fun i hi => by omega
  obtain ⟨adK, adV, hV, hT⟩ := vk_Sof (args := args) (s := s) (N := 2) (tm := lw_tm) (len := ql_len) (byt := ql_byt) (A := lw_A s)
    (fun i hi => by rcases two i hi with rfl | rfl <;> decide)
    (fun i hi => by
      rcases two i hi with rfl | rfl
      · exact hs (Cond.exactly (Term.string RX7 69) "java/lang/String") (by decide +kernel)
      · exact hs (Cond.exactly (Term.string RX7 77) "java/lang/String") (by decide +kernel))
    (fun i hi => by
      rcases two i hi with rfl | rfl
      · exact hs (Cond.eq (.field (Term.string RX7 69) "java/lang/String" "coder" "B") (.int 0)) (by decide +kernel)
      · exact hs (Cond.eq (.field (Term.string RX7 77) "java/lang/String" "coder" "B") (.int 0)) (by decide +kernel))
    (fun i hi => by
      rcases two i hi with rfl | rfl
      · exact hs (Cond.arrayOf (.field (Term.string RX7 69) "java/lang/String" "value" "[B") .byte) (by decide +kernel)
      · exact hs (Cond.arrayOf (.field (Term.string RX7 77) "java/lang/String" "value" "[B") .byte) (by decide +kernel))
    (fun i hi => by
      rcases two i hi with rfl | rfl
      · exact hs (Cond.eq (.length (.field (Term.string RX7 69) "java/lang/String" "value" "[B")) (.int (Int32.ofNat 90))) (by decide +kernel)
      · exact hs (Cond.eq (.length (.field (Term.string RX7 77) "java/lang/String" "value" "[B")) (.int (Int32.ofNat 8))) (by decide +kernel))
    (fun i hi j hj => by
      rcases two i hi with rfl | rfl
      · exact hs (lw_el 0 j) (lw_el0 j hj)
      · exact hs (lw_el 1 j) (lw_el1 j hj))
    (fun i j hi hj hij => by
      rcases two i hi with rfl | rfl <;> rcases two j hj with rfl | rfl
      · exact absurd rfl hij
      · exact Or.inl (hs (Cond.not (Cond.eq (Term.string RX7 69) (Term.string RX7 77))) (by decide +kernel))
      · exact Or.inr (hs (Cond.not (Cond.eq (Term.string RX7 69) (Term.string RX7 77))) (by decide +kernel))
      · exact absurd rfl hij) hA
  refine ⟨adK, adV, vk_R.of (A := args) (hts _ (by decide +kernel)) (hT 0 (by omega)), vk_R.of (A := args) (hts _ (by decide +kernel)) (hT 1 (by omega)), hV, ?_, ?_⟩
  · exact va_Zof (args := args) (hts (Cond.laysStatic RJ0 "COMPACT_STRINGS" "Z") (by decide +kernel)) (hts (Cond.initialized RJ0) (by decide +kernel)) (va_eqt (hs (Cond.eq (Term.static RJ0 "COMPACT_STRINGS" "Z") (Term.int 1)) (by decide +kernel))) hA
  · exact va_Zqof (args := args) (hts (Cond.laysStatic RJ3 "SIOOBE_FORMATTER" "Ljava/util/function/BiFunction;") (by decide +kernel)) (hts (Cond.initialized RJ3) (by decide +kernel)) (hs (Cond.isRef (Term.static RJ3 "SIOOBE_FORMATTER" "Ljava/util/function/BiFunction;")) (by decide +kernel)) hA
/-- the classes -/
theorem lw_cls {args : Array Value} {s : State} (hts : ∀ w ∈ wsL_law, w.before args s = true) (htb : ∀ w ∈ lw_tbl, w.before args s = true) : ∃ (dC : Nat → ClassId) (dI : Nat → Nat → Nat), ∀ (k : Nat) (q : vw_C), vwCl[k]? = some q → u_Kn s q.1 q.2.1 q.2.2 (dC k) (dI k) := by
  obtain ⟨c0, iS0, hKn0⟩ := u_known (C := RX0) (T := TX0) (N := 0) (n := 0) hts inlX0 (htb (.instantiable RX0 0) (by decide +kernel))
  obtain ⟨c1, iS1, hKn1⟩ := u_known (C := RX1) (T := TX1) (N := 0) (n := 0) hts inlX1 (htb (.instantiable RX1 0) (by decide +kernel))
  obtain ⟨c2, iS2, hKn2⟩ := u_known (C := RX2) (T := TX2) (N := 2) (n := 2) hts inlX2 (htb (.instantiable RX2 2) (by decide +kernel))
  obtain ⟨c3, iS3, hKn3⟩ := u_known (C := RX3) (T := TX3) (N := 0) (n := 0) hts inlX3 (htb (.instantiable RX3 0) (by decide +kernel))
  obtain ⟨c4, iS4, hKn4⟩ := u_known (C := RX4) (T := TX4) (N := 8) (n := 8) hts inlX4 (htb (.instantiable RX4 8) (by decide +kernel))
  obtain ⟨c5, iS5, hKn5⟩ := u_known (C := RX5) (T := TX5) (N := 0) (n := 0) hts inlX5 (htb (.instantiable RX5 0) (by decide +kernel))
  obtain ⟨c6, iS6, hKn6⟩ := u_known (C := RX6) (T := TX6) (N := 10) (n := 10) hts inlX6 (htb (.instantiable RX6 10) (by decide +kernel))
  obtain ⟨c7, iS7, hKn7⟩ := u_known (C := RX7) (T := TX7) (N := 5) (n := 5) hts inlX7 (htb (.instantiable RX7 5) (by decide +kernel))
  obtain ⟨c8, iS8, hKn8⟩ := u_known (C := RX8) (T := TX8) (N := 1) (n := 1) hts inlX8 (htb (.instantiable RX8 1) (by decide +kernel))
  obtain ⟨c9, iS9, hKn9⟩ := u_known (C := RX9) (T := TX9) (N := 0) (n := 0) hts inlX9 (htb (.instantiable RX9 0) (by decide +kernel))
  obtain ⟨c10, iS10, hKn10⟩ := u_known (C := RX10) (T := TX10) (N := 13) (n := 13) hts inlX10 (htb (.instantiable RX10 13) (by decide +kernel))
  obtain ⟨c11, iS11, hKn11⟩ := u_known (C := RX11) (T := TX11) (N := 41) (n := 41) hts inlX11 (htb (.instantiable RX11 41) (by decide +kernel))
  refine ⟨fun k => if k = 0 then c0 else if k = 1 then c1 else if k = 2 then c2 else if k = 3 then c3 else if k = 4 then c4 else if k = 5 then c5 else if k = 6 then c6 else if k = 7 then c7 else if k = 8 then c8 else if k = 9 then c9 else if k = 10 then c10 else c11, fun k => if k = 0 then iS0 else if k = 1 then iS1 else if k = 2 then iS2 else if k = 3 then iS3 else if k = 4 then iS4 else if k = 5 then iS5 else if k = 6 then iS6 else if k = 7 then iS7 else if k = 8 then iS8 else if k = 9 then iS9 else if k = 10 then iS10 else iS11, ?_⟩
  intro k q hq
  match k, hq with
  | 0, hq => cases hq; exact hKn0
  | 1, hq => cases hq; exact hKn1
  | 2, hq => cases hq; exact hKn2
  | 3, hq => cases hq; exact hKn3
  | 4, hq => cases hq; exact hKn4
  | 5, hq => cases hq; exact hKn5
  | 6, hq => cases hq; exact hKn6
  | 7, hq => cases hq; exact hKn7
  | 8, hq => cases hq; exact hKn8
  | 9, hq => cases hq; exact hKn9
  | 10, hq => cases hq; exact hKn10
  | 11, hq => cases hq; exact hKn11
  | k + 12, hq => simp [vwCl] at hq
theorem lw_Zz {args : Array Value} {s : State} (htb : ∀ w ∈ lw_tbl, w.before args s = true) : ql_Zz s := ⟨va_AO.of (htb (Cond.arrayOver (.object RX6)) (by decide +kernel)), va_AO.of (htb (Cond.arrayOver (.object RX5)) (by decide +kernel)), va_Nw.of rfl (htb (.castable RX0 RX5) (by decide +kernel)), va_Nw.of rfl (htb (.castable RX1 RX5) (by decide +kernel)), va_Nw.of rfl (htb (.castable RX3 RX5) (by decide +kernel)), va_Nw.of rfl (htb (.castable RX9 RX5) (by decide +kernel))⟩
set_option maxHeartbeats 4000000 in
set_option maxRecDepth 100000 in
theorem whole_start {p : Program} {e : Env} {s : State} {m : MethodId} {below : List Frame} {meth : Method} {c : Code} (l : Launch) {b L : Nat} {xs : Nat → Int32} (hL : L ≤ 3072) (C0 : lw_At p s m meth c b L xs) : W p l e room_1 s m #[Value.ref b] below meth c s.heap [] 0 0 (lw_Z below #[Value.ref b] s) (entryFrame m ([Value.ref b] : List Value).toArray 4) := by
  obtain ⟨hx, hb, hr, hml, hown, htb, hX, hbl, hlocks, hgv⟩ := C0
  have hts : ∀ w ∈ wsL_law, w.before #[Value.ref b] s = true := fun w h => htb w (wsL_law_in w h)
  have hown : s.vm.findClass RL = some m.cls := hown
  obtain ⟨dC, dI, hKc⟩ := lw_cls hts htb
  obtain ⟨adK, adV, hE⟩ := lw_E htb hgv
  have hZ := lw_Zz htb
  obtain ⟨cI, hI⟩ := lw_arr (ty := .int) trivial (htb (Cond.arrayClass .int) (by decide +kernel))
  obtain ⟨cJ, hJ⟩ := lw_arr (ty := .long) trivial (htb (Cond.arrayClass .long) (by decide +kernel))
  obtain ⟨cB, hB⟩ := lw_arr (ty := .byte) trivial (htb (Cond.arrayClass .byte) (by decide +kernel))
  obtain ⟨cZ, hZz⟩ := lw_arr (ty := .boolean) trivial (htb (Cond.arrayClass .boolean) (by decide +kernel))
  have hN : va_Nw ql_nest s := va_Nw.of rfl (htb ql_nest (by decide +kernel))
  have hK4 : va_K (dC, dI) vwCl [(cI, .int), (cJ, .long), (cB, .byte), (cZ, .boolean)] s := ⟨hKc, fun k q h => by
    match k, h with
    | 0, h => cases h; exact hI
    | 1, h => cases h; exact hJ
    | 2, h => cases h; exact hB
    | 3, h => cases h; exact hZz
    | k + 4, h => simp at h⟩
  have hK : ql_K (dC, dI) [(cI, .int), (cJ, .long), (cB, .byte), (cZ, .boolean)] s := ⟨hK4, hN⟩
  have hA : ∀ q : Nat, s.heap.size ≤ q → lw_A s q := fun _ h => h
  have hS : va_S (lw_A s) s.heap s.heap [] := va_S.rf
  have hP : va_P (dC, dI) vwCl [] s.heap := ql_nil
  have hD : va_D (lw_A s) [] := ⟨fun i j p q h => by simp at h, fun k q h => by simp at h⟩
  have C1 : ql_C p s m #[Value.ref b] meth c code 4 ret wsL_law RL (dC, dI) [(cI, .int), (cJ, .long), (cB, .byte), (cZ, .boolean)] (lw_A s) := ⟨hx, hb, hr, hml, hown, hts, hlocks, hK, hA⟩
  obtain ⟨r6, z0, e6, e11, hRR⟩ := e_init (N := 1000) (by omega)
  have hl := lv_entry ([.ref b]) (n := 4) (Nat.le_of_ble_eq_true rfl)
  rw [lg_entry_eq]
  generalize (lg_sl ([.ref b]) ++ List.replicate (4 - (lg_sl ([.ref b])).length) Slot.unset).toArray = ls at hl ⊢
  have hl : lv_has ls 4 [(0, .ref b)] := hl
  refine va_new (ci := 10) (fs := [.null, .int 0, .null, .null, .null, .null, .null, .null, .null, .null, .null, .int 0, .int 0]) (C := RX10) (T := TX10) (N := 13) hx hb hts inlX10 tyX10 tyX10_ok hown (hts (.classLink RL 7 RX10) (by decide +kernel)) (hts (.instantiable RX10 13) (by decide +kernel)) (hts (.initialized RX10) (by decide +kernel)) hK.1 hP hD hS hA rfl (fun j hj => by rcases (show j = 0 ∨ j = 1 ∨ j = 2 ∨ j = 3 ∨ j = 4 ∨ j = 5 ∨ j = 6 ∨ j = 7 ∨ j = 8 ∨ j = 9 ∨ j = 10 ∨ j = 11 ∨ j = 12 by omega) with rfl | rfl | rfl | rfl | rfl | rfl | rfl | rfl | rfl | rfl | rfl | rfl | rfl <;> rfl) (Nat.le_of_ble_eq_true rfl) (Nat.le_of_ble_eq_true rfl) dL_law_0 (fun h H hP hD hS => ?_)
  have hP : va_P (dC, dI) vwCl [(h, .inr (10, [.null, .int 0, .null, .null, .null, .null, .null, .null, .null, .null, .null, .int 0, .int 0]))] H := hP
  have hD : va_D (lw_A s) [(h, .inr (10, [.null, .int 0, .null, .null, .null, .null, .null, .null, .null, .null, .null, .int 0, .int 0]))] := hD
  refine lv_dup hx hb dL_law_3 rfl ?_
  refine lc_IZ (wr := []) (rest := [.ref h]) C1 hZ (c_X10_init l dC dI h cI cJ cB 1000 r6 e6) (cwI 0 hts gL_law_X10_init rfl rfl rfl (hts (.initialized RX10) (by decide +kernel)) (hts (.methodLink RL 9 yX10_init) (by decide +kernel)) (hts (.instanceMethod yX10_init) (by decide +kernel)) rfl (by decide +kernel) ⟨Nat.le_of_ble_eq_true rfl, Nat.le_of_ble_eq_true rfl⟩) (hK.sub [0, 1, 2] rfl) hP hD ql_nil (fun i j p q _ hj => by simp at hj) hS hl.1 rfl (Nat.le_of_ble_eq_true rfl) ⟨Nat.le_of_ble_eq_true rfl, Nat.le_of_ble_eq_true rfl⟩ dL_law_4 (fun t H1 locs1 ht hvm hB0 hj _ hS => ?_)
  obtain ⟨ad, aR, adr, aG, adg, aX, adx, aT, kd, pad, cP, cQ, hP1, hD1, hK1⟩ := hB0
  rw [ht] at hP1
  have hK1 := va_K.moved hvm.symm hK1
  obtain ⟨hDc, _⟩ := hj _ hD1
  have hK6 : ql_K (dC, dI) (lw_tys cI cJ cB cP cQ cZ) s := ⟨⟨hKc, fun k q h => by
    match k, h with
    | 0, h => cases h; exact hI
    | 1, h => cases h; exact hJ
    | 2, h => cases h; exact hB
    | 3, h => cases h; exact hK1.2 3 _ rfl
    | 4, h => cases h; exact hK1.2 4 _ rfl
    | 5, h => cases h; exact hZz
    | k + 6, h => simp at h⟩, hN⟩
  have C2 : ql_C p s m #[Value.ref b] meth c code 4 ret wsL_law RL (dC, dI) (lw_tys cI cJ cB cP cQ cZ) (lw_A s) := ⟨hx, hb, hr, hml, hown, hts, hlocks, hK6, hA⟩
  refine lv_astore_n (lv' := [(1, .ref h), (0, .ref b)]) hx hb dL_law_7 rfl hl (by decide) rfl (fun ls hl => ?_)
  refine va_new (ci := 11) (fs := [.long 0, .null, .int 0, .null, .null, .null, .null, .null, .null, .null, .null, .null, .null, .null, .int 0, .int 0, .int 0, .null, .null, .int 0, .int 0, .int 0, .null, .null, .null, .int 0, .null, .null, .null, .null, .null, .int 0, .int 0, .int 0, .null, .null, .null, .null, .null, .int 0, .int 0]) (C := RX11) (T := TX11) (N := 41) hx hb hts inlX11 tyX11 tyX11_ok hown (hts (.classLink RL 10 RX11) (by decide +kernel)) (hts (.instantiable RX11 41) (by decide +kernel)) (hts (.initialized RX11) (by decide +kernel)) hK.1 hP1 hDc hS hA rfl (fun j hj => by rcases (show j = 0 ∨ j = 1 ∨ j = 2 ∨ j = 3 ∨ j = 4 ∨ j = 5 ∨ j = 6 ∨ j = 7 ∨ j = 8 ∨ j = 9 ∨ j = 10 ∨ j = 11 ∨ j = 12 ∨ j = 13 ∨ j = 14 ∨ j = 15 ∨ j = 16 ∨ j = 17 ∨ j = 18 ∨ j = 19 ∨ j = 20 ∨ j = 21 ∨ j = 22 ∨ j = 23 ∨ j = 24 ∨ j = 25 ∨ j = 26 ∨ j = 27 ∨ j = 28 ∨ j = 29 ∨ j = 30 ∨ j = 31 ∨ j = 32 ∨ j = 33 ∨ j = 34 ∨ j = 35 ∨ j = 36 ∨ j = 37 ∨ j = 38 ∨ j = 39 ∨ j = 40 by omega) with rfl | rfl | rfl | rfl | rfl | rfl | rfl | rfl | rfl | rfl | rfl | rfl | rfl | rfl | rfl | rfl | rfl | rfl | rfl | rfl | rfl | rfl | rfl | rfl | rfl | rfl | rfl | rfl | rfl | rfl | rfl | rfl | rfl | rfl | rfl | rfl | rfl | rfl | rfl | rfl | rfl <;> rfl) (Nat.le_of_ble_eq_true rfl) (Nat.le_of_ble_eq_true rfl) dL_law_8 (fun g H hP hD hS => ?_)
  obtain ⟨hPc, hPg⟩ := ql_sP hP
  obtain ⟨hDc, hDg, hap⟩ := ql_sD hD
  refine lv_dup hx hb dL_law_11 rfl ?_
  refine lc_I (wr := ql_cu h ad aR adr aG adg aX adx aT kd cI cJ cB cP cQ (ql_u0 r6 pad)) (rest := [.ref g]) C2 (c_X11_init l dC dI g cI cZ cJ 1000 z0 e11) (cwI 0 hts gL_law_X11_init rfl rfl rfl (hts (.initialized RX11) (by decide +kernel)) (hts (.methodLink RL 12 yX11_init) (by decide +kernel)) (hts (.instanceMethod yX11_init) (by decide +kernel)) rfl (by decide +kernel) ⟨Nat.le_of_ble_eq_true rfl, Nat.le_of_ble_eq_true rfl⟩) (hK6.sub [0, 5, 1] rfl) hPg hDg hPc hap.sy hS hl.1 rfl (Nat.le_of_ble_eq_true rfl) ⟨Nat.le_of_ble_eq_true rfl, Nat.le_of_ble_eq_true rfl⟩ dL_law_12 (fun t H1 locs1 ht hvm hB0 hj hPc hS => ?_)
  obtain ⟨am, hPm, hDm⟩ := hB0
  rw [ht] at hPm
  obtain ⟨hDm, hap⟩ := hj _ hDm
  refine lv_astore_n (lv' := [(2, .ref g), (1, .ref h), (0, .ref b)]) hx hb dL_law_15 rfl hl (by decide) rfl (fun ls hl => ?_)
  refine lv_iconst (v := 0) hx hb dL_law_16 (by decide) ?_
  refine lv_istore_n (lv' := [(3, .int 0), (2, .ref g), (1, .ref h), (0, .ref b)]) hx hb dL_law_17 rfl hl (by decide) rfl (fun ls hl => ?_)
  refine W.widen (k := 600000) (n := 7302250) (Nat.le_of_ble_eq_true rfl) (Nat.le_of_ble_eq_true rfl) ?_
  exact lw_loop C2 hE hX hbl hL (L + 1) 0 (ql_u0 r6 pad) z0 H1 _ ls (by omega) (Nat.zero_le L) (hRR _ (fun _ _ => rfl) rfl rfl) ⟨hPc, hDc, hPm, hDm, hap.sy, hS⟩ hl
