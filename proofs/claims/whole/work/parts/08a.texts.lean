/-! the two texts that the reader holds, and the statics that the JDK asks: what stays all along -/
def ql_byt : List (List Int32) := [[115, 107, 105, 112, 32, 32, 115, 116, 111, 112, 32, 32, 105, 102, 32, 32, 32, 32, 116, 104, 101, 110, 32, 32, 101, 108, 115, 101, 32, 32, 102, 105, 32, 32, 32, 32, 119, 104, 105, 108, 101, 32, 100, 111, 32, 32, 32, 32, 111, 100, 32, 32, 32, 32, 119, 97, 110, 116, 32, 32, 98, 32, 32, 32, 32, 32, 99, 32, 32, 32, 32, 32, 112, 32, 32, 32, 32, 32, 113, 32, 32, 32, 32, 32, 114, 32, 32, 32, 32, 32], [48, 49, 59, 124, 38, 33, 40, 41]]
def ql_len : List Nat := [90, 8]
def ql_sb (i j : Nat) : Int32 := (ql_byt.getD i []).getD j 0
def ql_E (adK adV : Nat → Nat) (A : Nat → Prop) (U : State) (H : Heap) : Prop := vk_R RX7 69 "skip  stop  if    then  else  fi    while do    od    want  b     c     p     q     r     " (adK 0) U ∧ vk_R RX7 77 "01;|&!()" (adK 1) U ∧ vk_S 2 ql_len ql_byt adK adV A U H ∧ va_Z RJ0 "COMPACT_STRINGS" "Z" (.int 1) A U H ∧ va_Zq RJ3 "SIOOBE_FORMATTER" "Ljava/util/function/BiFunction;" A U H
theorem ql_E.kept {adK adV : Nat → Nat} {A : Nat → Prop} {U : State} {H H1 : Heap} (h : ql_E adK adV A U H) (hq : ∀ a : Nat, a < H.size → ¬ A a → H1[a]? = H[a]?) : ql_E adK adV A U H1 := ⟨h.1, h.2.1, h.2.2.1.kept hq, h.2.2.2.1.kept hq, h.2.2.2.2.kept hq⟩
theorem ql_E.narrow {adK adV : Nat → Nat} {A B : Nat → Prop} {U : State} {H : Heap} (h : ql_E adK adV A U H) (hAB : ∀ q, B q → A q) : ql_E adK adV B U H := ⟨h.1, h.2.1, h.2.2.1.narrow hAB, h.2.2.2.1.narrow hAB, h.2.2.2.2.narrow hAB⟩
theorem ql_E.warm {adK adV : Nat → Nat} {A : Nat → Prop} {s U : State} {H : Heap} (h : ql_E adK adV A s H) (hW : s.WarmedH U.vm) : ql_E adK adV A U H := ⟨h.1.warm hW, h.2.1.warm hW, vk_S.moved hW.alike h.2.2.1, va_Z.moved hW.alike h.2.2.2.1, va_Zq.moved hW.alike h.2.2.2.2⟩
theorem ql_E.blind {adK adV : Nat → Nat} {A : Nat → Prop} {U : State} {H : Heap} {g : JFrame} {mk : MethodId} {a : Array Value} (h : ql_E adK adV A U H) : ql_E adK adV A (U.calling g mk a) H := ⟨h.1.same rfl, h.2.1.same rfl, vk_S.moved (u := U) (U := U.calling g mk a) (Vm.Alike.refl U.vm) h.2.2.1, va_Z.moved (u := U) (U := U.calling g mk a) (Vm.Alike.refl U.vm) h.2.2.2.1, va_Zq.moved (u := U) (U := U.calling g mk a) (Vm.Alike.refl U.vm) h.2.2.2.2⟩
theorem ql_E.free {adK adV : Nat → Nat} {U : State} {H : Heap} {sz : Nat} (h : ql_E adK adV (fun _ => False) U H) (hz : H.size = sz) : ql_E adK adV (va_A [] sz) U H := by
  have key : ∀ {a : Nat} {c : Cell}, H[a]? = some c → ¬ va_A [] sz a := fun hc => ql_nA (by rw [← hz]; exact (Array.getElem?_eq_some_iff.mp hc).1)
  obtain ⟨h1, h2, ⟨h3, h4⟩, h5, h6⟩ := h
  refine ⟨h1, h2, ⟨fun i hi => ?_, h4⟩, ?_, ?_⟩
  · obtain ⟨⟨c1, a1, a2, a3, -⟩, ⟨cf, k, fi, f, c2, b1, b2, b3, b4, b5, -⟩, ⟨cf', k', fi', f', c3, d1, d2, d3, d4, d5, -⟩, ⟨c4, e1, e2, e3, e4, e5, e6, -⟩⟩ := h3 i hi
    exact ⟨⟨c1, a1, a2, a3, key a1⟩, ⟨cf, k, fi, f, c2, b1, b2, b3, b4, b5, key b3⟩, ⟨cf', k', fi', f', c3, d1, d2, d3, d4, d5, key d3⟩, ⟨c4, e1, e2, e3, e4, e5, e6, key e1⟩⟩
  · obtain ⟨cf, kf, fi, f, a, cell, g1, g2, g3, g4, g5, g6, g7, -⟩ := h5
    exact ⟨cf, kf, fi, f, a, cell, g1, g2, g3, g4, g5, g6, g7, key g5⟩
  · rcases h6 with h6 | ⟨t, h6⟩
    · obtain ⟨cf, kf, fi, f, a, cell, g1, g2, g3, g4, g5, g6, g7, -⟩ := h6
      exact Or.inl ⟨cf, kf, fi, f, a, cell, g1, g2, g3, g4, g5, g6, g7, key g5⟩
    · obtain ⟨cf, kf, fi, f, a, cell, g1, g2, g3, g4, g5, g6, g7, -⟩ := h6
      exact Or.inr ⟨t, cf, kf, fi, f, a, cell, g1, g2, g3, g4, g5, g6, g7, key g5⟩
/-- what a callee needs, out of what the caller has -/
theorem ql_E.go {adK adV : Nat → Nat} {A B : Nat → Prop} {s U : State} {H : Heap} {locs : List Loc} (h : ql_E adK adV A s s.heap) (hS : va_S A s.heap H locs) (hAB : ∀ q, B q → A q) (hW : s.WarmedH U.vm) (hU : U.heap = H) : ql_E adK adV B U U.heap := by
  rw [hU]
  exact ((h.kept hS.2.1).narrow hAB).warm hW
def ql_cz (v : Int32) : Bool := decide ((v.toUInt32 % 65536).toInt32 = v)
theorem ql_czo {v : Int32} (h : ql_cz v = true) : narrow .char (.int v) = .int v := by
  have e := of_decide_eq_true h
  rw [← e]
  exact pk_nc v
def ql_PreE (adK adV : Nat → Nat) (D : va_G) (tys : List (ClassId × FieldType)) (wu : va_W) (av : List Value) (sz : Nat) : Array Value → State → Prop := va_Pc av (fun U => U.heap.size = sz ∧ va_P D vwCl wu U.heap ∧ ql_K D tys U ∧ va_D (fun _ => True) wu ∧ ql_E adK adV (va_A wu sz) U U.heap)
def ql_PrrE (adK adV : Nat → Nat) (D : va_G) (tys : List (ClassId × FieldType)) (wr : va_W) (av : List Value) (sz : Nat) : Array Value → State → Prop := va_Pc av (fun U => U.heap.size = sz ∧ va_P D vwCl wr U.heap ∧ ql_K D tys U ∧ ql_E adK adV (fun _ => False) U U.heap)
theorem ql_PreE.blind {adK adV : Nat → Nat} {D : va_G} {tys : List (ClassId × FieldType)} {wu : va_W} {av : List Value} {sz : Nat} : FrameBlind (ql_PreE adK adV D tys wu av sz) := fun a U g mk q => by
  obtain ⟨q0, q1, qP, qK, qD, qE⟩ := q
  exact ⟨q0, q1, qP, qK.blind, qD, qE.blind⟩
theorem ql_PrrE.blind {adK adV : Nat → Nat} {D : va_G} {tys : List (ClassId × FieldType)} {wu : va_W} {av : List Value} {sz : Nat} : FrameBlind (ql_PrrE adK adV D tys wu av sz) := fun a U g mk q => by
  obtain ⟨q0, q1, qP, qK, qE⟩ := q
  exact ⟨q0, q1, qP, qK.blind, qE.blind⟩
def ql_MiE (adK adV : Nat → Nat) (l : Launch) (y : MethodName) (ws : List Cond) (rm : Room) (D : va_G) (tys : List (ClassId × FieldType)) {σ : Type} (w : σ → va_W) (av : List Value) (u : σ) (res : Int32 × σ) : Prop :=
  ∀ sz : Nat, Met l y ws rm (ql_PreE adK adV D tys (w u) av sz) (va_Qi (fun r u' => (r, u') = res) (ql_B D w (va_A (w u) sz)) (va_A (w u) sz)) 0 0 (va_A (w u) sz)
def ql_MvE (adK adV : Nat → Nat) (l : Launch) (y : MethodName) (ws : List Cond) (rm : Room) (D : va_G) (tys : List (ClassId × FieldType)) {σ : Type} (w : σ → va_W) (av : List Value) (u : σ) (res : σ) : Prop :=
  ∀ sz : Nat, Met l y ws rm (ql_PreE adK adV D tys (w u) av sz) (va_Qv (fun u' => u' = res) (ql_B D w (va_A (w u) sz)) (va_A (w u) sz)) 0 0 (va_A (w u) sz)
def ql_RiE (adK adV : Nat → Nat) (l : Launch) (y : MethodName) (ws : List Cond) (rm : Room) (D : va_G) (tys : List (ClassId × FieldType)) (wr : va_W) (av : List Value) (r0 : Int32) : Prop :=
  ∀ sz : Nat, Met l y ws rm (ql_PrrE adK adV D tys wr av sz) (va_Qi (fun r (_ : Unit) => r = r0) (fun _ _ => True) (va_A [] sz)) 0 0 (va_A [] sz)
def ql_RvE (adK adV : Nat → Nat) (l : Launch) (y : MethodName) (ws : List Cond) (rm : Room) (D : va_G) (tys : List (ClassId × FieldType)) (wr : va_W) (av : List Value) : Prop :=
  ∀ sz : Nat, Met l y ws rm (ql_PrrE adK adV D tys wr av sz) (va_Qv (fun (_ : Unit) => True) (fun _ _ => True) (va_A [] sz)) 0 0 (va_A [] sz)
abbrev ql_Qrv (below : List Frame) (A : Nat → Prop) (args : Array Value) (s : State) : State → Prop := MQ below (va_Qv (fun (_ : Unit) => True) (fun _ _ => True) A) args s 0 0 A
section QLEE
variable {l : Launch} {y : MethodName} {ws ws' : List Cond} {rm : Room} {D : va_G} {tys : List (ClassId × FieldType)} {σ : Type} {w : σ → va_W} {wr : va_W} {av : List Value} {u : σ} {cc : ByteArray} {maxL : Nat} {ret : Option FieldType}
variable {adK adV : Nat → Nat}
theorem ql_start_iE {res : Int32 × σ} (hy : plainName y.cls = true) (hw : ws = Cond.code y cc maxL ret :: ws') (hlen : (lg_sl av).length ≤ maxL)
    (body : ∀ (p : Program) (e : Env) (s : State) (m : MethodId) (below : List Frame) (meth : Method) (c : Code) (A : Nat → Prop) (ls : Array Slot), ql_C p s m av.toArray meth c cc maxL ret ws y.cls D tys A → lv_has ls maxL (lv_args 0 av) → va_P D vwCl (w u) s.heap → va_D A (w u) → va_S A s.heap s.heap [] → ql_E adK adV A s s.heap →
      W p l e rm s m av.toArray below meth c s.heap [] 0 0 (ql_Qi below D w A av.toArray s res) (F0 m 0 ls [])) : ql_MiE adK adV l y ws rm D tys w av u res := by
  intro sz
  refine Met.ofW (cc := cc) (maxL := maxL) (ret := ret) hy hw ?_
  intro p e s m args below meth c s₁ B hml hv
  obtain ⟨rfl, hsz, hP, hK, hD0, hE⟩ := hv
  subst hsz
  rw [lg_entry_eq]
  exact body p e s m below meth c _ _ ⟨B.exec, B.bytes, B.returns, hml, findClass_of_methodNamed B.named, atoms_spec (ws := ws) B.pre, B.notSynchronized, hK, fun q h => Or.inr h⟩ (lv_entry av hlen) hP hD0.self va_S.rf hE
theorem ql_start_vE {res : σ} (hy : plainName y.cls = true) (hw : ws = Cond.code y cc maxL ret :: ws') (hlen : (lg_sl av).length ≤ maxL)
    (body : ∀ (p : Program) (e : Env) (s : State) (m : MethodId) (below : List Frame) (meth : Method) (c : Code) (A : Nat → Prop) (ls : Array Slot), ql_C p s m av.toArray meth c cc maxL ret ws y.cls D tys A → lv_has ls maxL (lv_args 0 av) → va_P D vwCl (w u) s.heap → va_D A (w u) → va_S A s.heap s.heap [] → ql_E adK adV A s s.heap →
      W p l e rm s m av.toArray below meth c s.heap [] 0 0 (ql_Qv below D w A av.toArray s res) (F0 m 0 ls [])) : ql_MvE adK adV l y ws rm D tys w av u res := by
  intro sz
  refine Met.ofW (cc := cc) (maxL := maxL) (ret := ret) hy hw ?_
  intro p e s m args below meth c s₁ B hml hv
  obtain ⟨rfl, hsz, hP, hK, hD0, hE⟩ := hv
  subst hsz
  rw [lg_entry_eq]
  exact body p e s m below meth c _ _ ⟨B.exec, B.bytes, B.returns, hml, findClass_of_methodNamed B.named, atoms_spec (ws := ws) B.pre, B.notSynchronized, hK, fun q h => Or.inr h⟩ (lv_entry av hlen) hP hD0.self va_S.rf hE
theorem ql_start_riE {r0 : Int32} (hy : plainName y.cls = true) (hw : ws = Cond.code y cc maxL ret :: ws') (hlen : (lg_sl av).length ≤ maxL)
    (body : ∀ (p : Program) (e : Env) (s : State) (m : MethodId) (below : List Frame) (meth : Method) (c : Code) (A : Nat → Prop) (ls : Array Slot), ql_C p s m av.toArray meth c cc maxL ret ws y.cls D tys A → lv_has ls maxL (lv_args 0 av) → va_P D vwCl wr s.heap → va_S A s.heap s.heap [] → ql_E adK adV A s s.heap →
      W p l e rm s m av.toArray below meth c s.heap [] 0 0 (ql_Qri below A av.toArray s r0) (F0 m 0 ls [])) : ql_RiE adK adV l y ws rm D tys wr av r0 := by
  intro sz
  refine Met.ofW (cc := cc) (maxL := maxL) (ret := ret) hy hw ?_
  intro p e s m args below meth c s₁ B hml hv
  obtain ⟨rfl, hsz, hP, hK, hE⟩ := hv
  subst hsz
  rw [lg_entry_eq]
  exact body p e s m below meth c _ _ ⟨B.exec, B.bytes, B.returns, hml, findClass_of_methodNamed B.named, atoms_spec (ws := ws) B.pre, B.notSynchronized, hK, fun q h => Or.inr h⟩ (lv_entry av hlen) hP va_S.rf (hE.free rfl)
theorem ql_start_rvE (hy : plainName y.cls = true) (hw : ws = Cond.code y cc maxL ret :: ws') (hlen : (lg_sl av).length ≤ maxL)
    (body : ∀ (p : Program) (e : Env) (s : State) (m : MethodId) (below : List Frame) (meth : Method) (c : Code) (A : Nat → Prop) (ls : Array Slot), ql_C p s m av.toArray meth c cc maxL ret ws y.cls D tys A → lv_has ls maxL (lv_args 0 av) → va_P D vwCl wr s.heap → va_S A s.heap s.heap [] → ql_E adK adV A s s.heap →
      W p l e rm s m av.toArray below meth c s.heap [] 0 0 (ql_Qrv below A av.toArray s) (F0 m 0 ls [])) : ql_RvE adK adV l y ws rm D tys wr av := by
  intro sz
  refine Met.ofW (cc := cc) (maxL := maxL) (ret := ret) hy hw ?_
  intro p e s m args below meth c s₁ B hml hv
  obtain ⟨rfl, hsz, hP, hK, hE⟩ := hv
  subst hsz
  rw [lg_entry_eq]
  exact body p e s m below meth c _ _ ⟨B.exec, B.bytes, B.returns, hml, findClass_of_methodNamed B.named, atoms_spec (ws := ws) B.pre, B.notSynchronized, hK, fun q h => Or.inr h⟩ (lv_entry av hlen) hP va_S.rf (hE.free rfl)
end QLEE
section QLWE
variable {p : Program} {l : Launch} {e : Env} {R : Room} {s : State} {m : MethodId} {args : Array Value} {below : List Frame} {meth : Method} {c : Code} {H : Heap} {locs : List Loc}
variable {cc : ByteArray} {pc maxL : Nat} {ret : Option FieldType} {ws : List Cond} {own : String} {D : va_G} {tys : List (ClassId × FieldType)} {A : Nat → Prop} {ls : Array Slot} {σ : Type} {w : σ → va_W}
theorem ql_rnret {v r0 : Int32} {ty : FieldType} (C0 : ql_C p s m args meth c cc maxL (some ty) ws own D tys A) (hz : narrow ty (.int v) = .int v) (hf : some v = some r0) (hS : va_S A s.heap H locs) (hdg : decode cc pc = .ok (.ireturn, 1)) :
    W p l e R s m args below meth c H locs 0 0 (ql_Qri below A args s r0) (F0 m pc ls [.int v]) := by
  obtain ⟨hx, hb, hr, hml, hown, hts, hlocks, hK, hA⟩ := C0
  exact W.zret hx hb hr hz (fun t ht hW => ⟨⟨v, (), rfl, Option.some.inj hf, trivial⟩, hS.F ht⟩) hS.2.2 hdg
theorem ql_rvret (C0 : ql_C p s m args meth c cc maxL none ws own D tys A) (hS : va_S A s.heap H locs) (hdg : decode cc pc = .ok (.return_, 1)) :
    W p l e R s m args below meth c H locs 0 0 (ql_Qrv below A args s) (F0 m pc ls []) := by
  obtain ⟨hx, hb, hr, hml, hown, hts, hlocks, hK, hA⟩ := C0
  exact W.vret hx hb hr (fun t ht hW => ⟨⟨(), rfl, trivial, trivial⟩, hS.F ht⟩) hS.2.2 hdg
variable {Q : State → Prop} {y : MethodName} {bytes : ByteArray} {maxL' index n : Nat} {ret' : Option FieldType} {ws' : List Cond} {rm' : Room} {Cn : String} {b : Addr} {As rest st0 : List Value} {u : σ} {wr : va_W} {tys' : List (ClassId × FieldType)}
variable {adK adV : Nat → Nat}
theorem ql_callRViE {r0 : Int32} (C0 : ql_C p s m args meth c cc maxL ret ws own D tys A) (hE : ql_E adK adV A s s.heap) (hM : ql_RiE adK adV l y ws' rm' D tys' wr (.ref b :: As) r0) (cw : CallW R s args own Cn index y bytes maxL' ret' ws' rm' 0 0 n)
    (hrc : ∃ cell : Cell, H[b]? = some cell ∧ cell.vm.isStatics = false ∧ s.vm.findClass Cn = some cell.cls) (hKr : ql_K D tys' s) (hPr : va_P D vwCl wr H) (hS : va_S A s.heap H locs) (hl : ls.size = maxL) (hn : As.length = n) (hst : st0 = As.reverse ++ .ref b :: rest) (hroom : (rest.map fun v => v.category).sum ≤ 8) (hdg : decode cc pc = .ok (.invokevirtual index, 3))
    (kk : ∀ (H1 : Heap) (locs1 : List Loc), (∀ q : Nat, q < H.size → H1[q]? = H[q]?) → va_S A s.heap H1 locs1 → W p l e R s m args below meth c H1 locs1 0 0 Q (F0 m (pc + 3) ls (.int r0 :: rest))) : W p l e R s m args below meth c H locs 0 0 Q (F0 m pc ls st0) := by
  obtain ⟨hx, hb, hr, hml, hown, hts, hlocks, hK, hA⟩ := C0
  have hF : ∀ q, va_A [] H.size q → A q := fun q h => by
    rcases h with ⟨k, e, h⟩ | h
    · simp at h
    · exact hA q (Nat.le_trans hS.1 h)
  refine va_calli (va_runV (As := As) (rest := rest) ⟨hx, hb, hml, hown, hts⟩ (hM H.size) cw ⟨ql_PrrE.blind, hrc, fun U hU hW => ⟨rfl, by rw [hU], by rw [hU]; exact hPr, hKr.warm hW, hE.go hS (fun _ h => h.elim) hW hU⟩⟩ rfl hn hl hst (lv_room hroom) hdg ⟨Nat.zero_le _, Nat.zero_le _⟩) hS (fun q _ h => hF q h) hF (fun r u' t H1 locs ht hvm hw hB hz1 hk1 hS => ?_)
  subst hw
  exact kk H1 _ (fun q h => hk1 q h (ql_nA h)) hS
theorem ql_callRSiE {r0 : Int32} (C0 : ql_C p s m args meth c cc maxL ret ws own D tys A) (hE : ql_E adK adV A s s.heap) (hM : ql_RiE adK adV l y ws' rm' D tys' wr As r0) (cw : CallB R s args own index y bytes maxL' ret' ws' rm' 0 0 n ∧ (Cond.static y).before args s = true)
    (hKr : ql_K D tys' s) (hPr : va_P D vwCl wr H) (hS : va_S A s.heap H locs) (hl : ls.size = maxL) (hn : As.length = n) (hst : st0 = As.reverse ++ rest) (hroom : (rest.map fun v => v.category).sum ≤ 8) (hdg : decode cc pc = .ok (.invokestatic index, 3))
    (kk : ∀ (H1 : Heap) (locs1 : List Loc), (∀ q : Nat, q < H.size → H1[q]? = H[q]?) → va_S A s.heap H1 locs1 → W p l e R s m args below meth c H1 locs1 0 0 Q (F0 m (pc + 3) ls (.int r0 :: rest))) : W p l e R s m args below meth c H locs 0 0 Q (F0 m pc ls st0) := by
  obtain ⟨hx, hb, hr, hml, hown, hts, hlocks, hK, hA⟩ := C0
  have hF : ∀ q, va_A [] H.size q → A q := fun q h => by
    rcases h with ⟨k, e, h⟩ | h
    · simp at h
    · exact hA q (Nat.le_trans hS.1 h)
  refine va_calli (va_runS (As := As) (rest := rest) ⟨hx, hb, hml, hown, hts⟩ (hM H.size) cw ⟨ql_PrrE.blind, fun U hU hW => ⟨rfl, by rw [hU], by rw [hU]; exact hPr, hKr.warm hW, hE.go hS (fun _ h => h.elim) hW hU⟩⟩ rfl hn hl hst (lv_room hroom) hdg ⟨Nat.zero_le _, Nat.zero_le _⟩) hS (fun q _ h => hF q h) hF (fun r u' t H1 locs ht hvm hw hB hz1 hk1 hS => ?_)
  subst hw
  exact kk H1 _ (fun q h => hk1 q h (ql_nA h)) hS
theorem ql_callRSvE (C0 : ql_C p s m args meth c cc maxL ret ws own D tys A) (hE : ql_E adK adV A s s.heap) (hM : ql_RvE adK adV l y ws' rm' D tys' wr As) (cw : CallB R s args own index y bytes maxL' ret' ws' rm' 0 0 n ∧ (Cond.static y).before args s = true)
    (hKr : ql_K D tys' s) (hPr : va_P D vwCl wr H) (hS : va_S A s.heap H locs) (hl : ls.size = maxL) (hn : As.length = n) (hst : st0 = As.reverse ++ rest) (hroom : (rest.map fun v => v.category).sum ≤ 8) (hdg : decode cc pc = .ok (.invokestatic index, 3))
    (kk : ∀ (H1 : Heap) (locs1 : List Loc), (∀ q : Nat, q < H.size → H1[q]? = H[q]?) → va_S A s.heap H1 locs1 → W p l e R s m args below meth c H1 locs1 0 0 Q (F0 m (pc + 3) ls rest)) : W p l e R s m args below meth c H locs 0 0 Q (F0 m pc ls st0) := by
  obtain ⟨hx, hb, hr, hml, hown, hts, hlocks, hK, hA⟩ := C0
  have hF : ∀ q, va_A [] H.size q → A q := fun q h => by
    rcases h with ⟨k, e, h⟩ | h
    · simp at h
    · exact hA q (Nat.le_trans hS.1 h)
  refine va_callv (va_runS (As := As) (rest := rest) ⟨hx, hb, hml, hown, hts⟩ (hM H.size) cw ⟨ql_PrrE.blind, fun U hU hW => ⟨rfl, by rw [hU], by rw [hU]; exact hPr, hKr.warm hW, hE.go hS (fun _ h => h.elim) hW hU⟩⟩ rfl hn hl hst (lv_room hroom) hdg ⟨Nat.zero_le _, Nat.zero_le _⟩) hS (fun q _ h => hF q h) hF (fun u' t H1 locs ht hvm hw hB hz1 hk1 hS => ?_)
  exact kk H1 _ (fun q h => hk1 q h (ql_nA h)) hS
theorem ql_callViE {res : Int32 × σ} (C0 : ql_C p s m args meth c cc maxL ret ws own D tys A) (hE : ql_E adK adV A s s.heap) (hM : ql_MiE adK adV l y ws' rm' D tys w (.ref b :: As) u res) (cw : CallW R s args own Cn index y bytes maxL' ret' ws' rm' 0 0 n)
    (hrc : ∃ cell : Cell, H[b]? = some cell ∧ cell.vm.isStatics = false ∧ s.vm.findClass Cn = some cell.cls) (hP : va_P D vwCl (w u) H) (hD : va_D A (w u)) (hS : va_S A s.heap H locs) (hl : ls.size = maxL) (hn : As.length = n) (hst : st0 = As.reverse ++ .ref b :: rest) (hroom : (rest.map fun v => v.category).sum ≤ 8) (hdg : decode cc pc = .ok (.invokevirtual index, 3))
    (kk : ∀ (H1 : Heap) (locs1 : List Loc), va_P D vwCl (w res.2) H1 → va_D A (w res.2) → va_S A s.heap H1 locs1 → W p l e R s m args below meth c H1 locs1 0 0 Q (F0 m (pc + 3) ls (.int res.1 :: rest))) : W p l e R s m args below meth c H locs 0 0 Q (F0 m pc ls st0) := by
  obtain ⟨hx, hb, hr, hml, hown, hts, hlocks, hK, hA⟩ := C0
  have hF : ∀ q, va_A (w u) H.size q → A q := fun q h => by
    rcases h with ⟨k, e, h⟩ | h
    · exact hD.2 k _ h
    · exact hA q (Nat.le_trans hS.1 h)
  refine va_calli (va_runV (As := As) (rest := rest) ⟨hx, hb, hml, hown, hts⟩ (hM H.size) cw ⟨ql_PreE.blind, hrc, fun U hU hW => ⟨rfl, by rw [hU], by rw [hU]; exact hP, hK.warm hW, hD.weaken (fun _ _ _ _ => trivial), hE.go hS hF hW hU⟩⟩ rfl hn hl hst (lv_room hroom) hdg ⟨Nat.zero_le _, Nat.zero_le _⟩) hS (fun q _ h => hF q h) hF (fun r u' t H1 locs ht hvm hw hB hz1 hk1 hS => ?_)
  subst hw
  obtain ⟨hP1, hD1⟩ := hB
  rw [ht] at hP1
  exact kk H1 _ hP1 (hD1.weaken (fun k q _ h => hF q.1 h)) hS
theorem ql_callVvE {res : σ} (C0 : ql_C p s m args meth c cc maxL ret ws own D tys A) (hE : ql_E adK adV A s s.heap) (hM : ql_MvE adK adV l y ws' rm' D tys w (.ref b :: As) u res) (cw : CallW R s args own Cn index y bytes maxL' ret' ws' rm' 0 0 n)
    (hrc : ∃ cell : Cell, H[b]? = some cell ∧ cell.vm.isStatics = false ∧ s.vm.findClass Cn = some cell.cls) (hP : va_P D vwCl (w u) H) (hD : va_D A (w u)) (hS : va_S A s.heap H locs) (hl : ls.size = maxL) (hn : As.length = n) (hst : st0 = As.reverse ++ .ref b :: rest) (hroom : (rest.map fun v => v.category).sum ≤ 8) (hdg : decode cc pc = .ok (.invokevirtual index, 3))
    (kk : ∀ (H1 : Heap) (locs1 : List Loc), va_P D vwCl (w res) H1 → va_D A (w res) → va_S A s.heap H1 locs1 → W p l e R s m args below meth c H1 locs1 0 0 Q (F0 m (pc + 3) ls rest)) : W p l e R s m args below meth c H locs 0 0 Q (F0 m pc ls st0) := by
  obtain ⟨hx, hb, hr, hml, hown, hts, hlocks, hK, hA⟩ := C0
  have hF : ∀ q, va_A (w u) H.size q → A q := fun q h => by
    rcases h with ⟨k, e, h⟩ | h
    · exact hD.2 k _ h
    · exact hA q (Nat.le_trans hS.1 h)
  refine va_callv (va_runV (As := As) (rest := rest) ⟨hx, hb, hml, hown, hts⟩ (hM H.size) cw ⟨ql_PreE.blind, hrc, fun U hU hW => ⟨rfl, by rw [hU], by rw [hU]; exact hP, hK.warm hW, hD.weaken (fun _ _ _ _ => trivial), hE.go hS hF hW hU⟩⟩ rfl hn hl hst (lv_room hroom) hdg ⟨Nat.zero_le _, Nat.zero_le _⟩) hS (fun q _ h => hF q h) hF (fun u' t H1 locs ht hvm hw hB hz1 hk1 hS => ?_)
  subst hw
  obtain ⟨hP1, hD1⟩ := hB
  rw [ht] at hP1
  exact kk H1 _ hP1 (hD1.weaken (fun k q _ h => hF q.1 h)) hS
theorem ql_subViE {σ' : Type} {w' : σ' → va_W} {u' : σ'} {res : Int32 × σ'} {wc wr : va_W} (C0 : ql_C p s m args meth c cc maxL ret ws own D tys A) (hE : ql_E adK adV A s s.heap) (hM : ql_MiE adK adV l y ws' rm' D tys' w' (.ref b :: As) u' res) (cw : CallW R s args own Cn index y bytes maxL' ret' ws' rm' 0 0 n) (hKr : ql_K D tys' s)
    (isC isR : List Nat) (hC : isC.map (fun i => wc[i]?) = (w' u').map some) (hR : isR.map (fun i => wc[i]?) = wr.map some) (hnC : va_nd isC = true) (hnR : va_nd isR = true) (hdis : ∀ i ∈ isR, i ∉ isC)
    (hrc : ∃ cell : Cell, H[b]? = some cell ∧ cell.vm.isStatics = false ∧ s.vm.findClass Cn = some cell.cls) (hP : va_P D vwCl wc H) (hD : va_D A wc) (hS : va_S A s.heap H locs) (hl : ls.size = maxL) (hn : As.length = n) (hst : st0 = As.reverse ++ .ref b :: rest) (hroom : (rest.map fun v => v.category).sum ≤ 8) (hdg : decode cc pc = .ok (.invokevirtual index, 3))
    (kk : ∀ (H1 : Heap) (locs1 : List Loc), va_P D vwCl (wr ++ w' res.2) H1 → va_D A (wr ++ w' res.2) → va_S A s.heap H1 locs1 → W p l e R s m args below meth c H1 locs1 0 0 Q (F0 m (pc + 3) ls (.int res.1 :: rest))) : W p l e R s m args below meth c H locs 0 0 Q (F0 m pc ls st0) := by
  obtain ⟨hx, hb, hr, hml, hown, hts, hlocks, hK, hA⟩ := C0
  have hPc := hP.sub isC (ql_fm _ _ hC)
  have hDc := hD.sub isC hnC hC
  have hFc := va_free (wc := w' u') hD hS hA isC hC
  refine va_calli (va_runV (As := As) (rest := rest) ⟨hx, hb, hml, hown, hts⟩ (hM H.size) cw ⟨ql_PreE.blind, hrc, fun U hU hW => ⟨rfl, by rw [hU], by rw [hU]; exact hPc, hKr.warm hW, hDc.weaken (fun _ _ _ _ => trivial), hE.go hS hFc hW hU⟩⟩ rfl hn hl hst (lv_room hroom) hdg ⟨Nat.zero_le _, Nat.zero_le _⟩) hS (fun q _ h => hFc q h) hFc (fun r u1 t H1 locs ht hvm hw hB hz1 hk1 hS => ?_)
  subst hw
  obtain ⟨hP1, hD1⟩ := hB
  rw [ht] at hP1
  obtain ⟨hP, hD⟩ := va_join hP hD isC isR hC hR hnR hdis hk1 hFc hP1 hD1
  exact kk H1 _ hP hD hS
theorem ql_subVvE {σ' : Type} {w' : σ' → va_W} {u' : σ'} {res : σ'} {wc wr : va_W} (C0 : ql_C p s m args meth c cc maxL ret ws own D tys A) (hE : ql_E adK adV A s s.heap) (hM : ql_MvE adK adV l y ws' rm' D tys' w' (.ref b :: As) u' res) (cw : CallW R s args own Cn index y bytes maxL' ret' ws' rm' 0 0 n) (hKr : ql_K D tys' s)
    (isC isR : List Nat) (hC : isC.map (fun i => wc[i]?) = (w' u').map some) (hR : isR.map (fun i => wc[i]?) = wr.map some) (hnC : va_nd isC = true) (hnR : va_nd isR = true) (hdis : ∀ i ∈ isR, i ∉ isC)
    (hrc : ∃ cell : Cell, H[b]? = some cell ∧ cell.vm.isStatics = false ∧ s.vm.findClass Cn = some cell.cls) (hP : va_P D vwCl wc H) (hD : va_D A wc) (hS : va_S A s.heap H locs) (hl : ls.size = maxL) (hn : As.length = n) (hst : st0 = As.reverse ++ .ref b :: rest) (hroom : (rest.map fun v => v.category).sum ≤ 8) (hdg : decode cc pc = .ok (.invokevirtual index, 3))
    (kk : ∀ (H1 : Heap) (locs1 : List Loc), va_P D vwCl (wr ++ w' res) H1 → va_D A (wr ++ w' res) → va_S A s.heap H1 locs1 → W p l e R s m args below meth c H1 locs1 0 0 Q (F0 m (pc + 3) ls (rest))) : W p l e R s m args below meth c H locs 0 0 Q (F0 m pc ls st0) := by
  obtain ⟨hx, hb, hr, hml, hown, hts, hlocks, hK, hA⟩ := C0
  have hPc := hP.sub isC (ql_fm _ _ hC)
  have hDc := hD.sub isC hnC hC
  have hFc := va_free (wc := w' u') hD hS hA isC hC
  refine va_callv (va_runV (As := As) (rest := rest) ⟨hx, hb, hml, hown, hts⟩ (hM H.size) cw ⟨ql_PreE.blind, hrc, fun U hU hW => ⟨rfl, by rw [hU], by rw [hU]; exact hPc, hKr.warm hW, hDc.weaken (fun _ _ _ _ => trivial), hE.go hS hFc hW hU⟩⟩ rfl hn hl hst (lv_room hroom) hdg ⟨Nat.zero_le _, Nat.zero_le _⟩) hS (fun q _ h => hFc q h) hFc (fun  u1 t H1 locs ht hvm hw hB hz1 hk1 hS => ?_)
  subst hw
  obtain ⟨hP1, hD1⟩ := hB
  rw [ht] at hP1
  obtain ⟨hP, hD⟩ := va_join hP hD isC isR hC hR hnR hdis hk1 hFc hP1 hD1
  exact kk H1 _ hP hD hS
end QLWE
