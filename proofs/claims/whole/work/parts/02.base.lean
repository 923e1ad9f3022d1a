/-! the state of a system: ints and longs by slot and place; contracts that speak of a pure function's answer -/
abbrev ql_St : Type := Nat → Nat → Int32
abbrev ql_Lt : Type := Nat → Nat → Int64
abbrev ql_Z : Type := ql_St × ql_Lt
def ql_up (S : ql_St) (k : Nat) (f : Nat → Int32) : ql_St := fun j => cond (Nat.beq j k) f (S j)
def ql_uq (T : ql_Lt) (k : Nat) (f : Nat → Int64) : ql_Lt := fun j => cond (Nat.beq j k) f (T j)
def ql_ib (i : Int32) (n : Nat) : Bool := !(decide (i < 0) || decide (n ≤ i.toNatClampNeg))
theorem ql_in {i : Int32} {n : Nat} (h : ql_ib i n = true) : vp_in i n := by
  intro q
  simp only [ql_ib, Bool.not_eq_true', Bool.or_eq_false_iff, decide_eq_false_iff_not] at h
  rcases q with q | q
  · exact h.1 q
  · exact h.2 q
theorem ql_gt {ρ : Type} {b : Bool} {x : Option ρ} {r : ρ} (h : (if b = true then x else none) = some r) : b = true := by
  cases b with
  | true => rfl
  | false => cases h
theorem ql_gx {ρ : Type} {b : Bool} {x : Option ρ} {r : ρ} (h : (if b = true then x else none) = some r) : x = some r := by
  cases b with
  | true => exact h
  | false => cases h
theorem ql_bd {α ρ : Type} {x : Option α} {k : α → Option ρ} {r : ρ} (h : x.bind k = some r) : ∃ u, x = some u ∧ k u = some r := by
  cases x with
  | none => cases h
  | some u => exact ⟨u, rfl, h⟩
def ql_nest : Cond := .methodLinkNest RX6 71 yX10_holds RX10
def ql_K (D : va_G) (tys : List (ClassId × FieldType)) (U : State) : Prop := va_K D vwCl tys U ∧ va_Nw ql_nest U
theorem ql_K.warm {D : va_G} {tys : List (ClassId × FieldType)} {s U : State} (h : ql_K D tys s) (hW : s.WarmedH U.vm) : ql_K D tys U := ⟨va_K.moved hW.alike h.1, va_Nw.warmM hW h.2⟩
theorem ql_K.blind {D : va_G} {tys : List (ClassId × FieldType)} {U : State} {g : JFrame} {mk : MethodId} {a : Array Value} (h : ql_K D tys U) : ql_K D tys (U.calling g mk a) := ⟨va_K.moved (u := U) (U := U.calling g mk a) (Vm.Alike.refl U.vm) h.1, va_Nw.same rfl rfl h.2⟩
theorem ql_K.sub {D : va_G} {tys tys' : List (ClassId × FieldType)} {U : State} (h : ql_K D tys U) (is : List Nat) (hs : is.filterMap (fun i => tys[i]?) = tys') : ql_K D tys' U := ⟨h.1.sub is hs, h.2⟩
def ql_B (D : va_G) {σ : Type} (w : σ → va_W) (A : Nat → Prop) : σ → State → Prop := fun u t => va_P D vwCl (w u) t.heap ∧ va_D A (w u)
def ql_Pre (D : va_G) (tys : List (ClassId × FieldType)) (wu : va_W) (av : List Value) (sz : Nat) : Array Value → State → Prop := va_Pc av (fun U => U.heap.size = sz ∧ va_P D vwCl wu U.heap ∧ ql_K D tys U ∧ va_D (fun _ => True) wu)
def ql_Prr (D : va_G) (tys : List (ClassId × FieldType)) (wr : va_W) (av : List Value) (sz : Nat) : Array Value → State → Prop := va_Pc av (fun U => U.heap.size = sz ∧ va_P D vwCl wr U.heap ∧ ql_K D tys U)
theorem ql_Pre.blind {D : va_G} {tys : List (ClassId × FieldType)} {wu : va_W} {av : List Value} {sz : Nat} : FrameBlind (ql_Pre D tys wu av sz) := fun a U g mk q => by
  obtain ⟨q0, q1, qP, qK, qD⟩ := q
  exact ⟨q0, q1, qP, qK.blind, qD⟩
theorem ql_Prr.blind {D : va_G} {tys : List (ClassId × FieldType)} {wu : va_W} {av : List Value} {sz : Nat} : FrameBlind (ql_Prr D tys wu av sz) := fun a U g mk q => by
  obtain ⟨q0, q1, qP, qK⟩ := q
  exact ⟨q0, q1, qP, qK.blind⟩
/-- contracts of a method that may write: int, long, nothing answered -/
def ql_Mi (l : Launch) (y : MethodName) (ws : List Cond) (rm : Room) (D : va_G) (tys : List (ClassId × FieldType)) {σ : Type} (w : σ → va_W) (av : List Value) (u : σ) (res : Int32 × σ) : Prop :=
  ∀ sz : Nat, Met l y ws rm (ql_Pre D tys (w u) av sz) (va_Qi (fun r u' => (r, u') = res) (ql_B D w (va_A (w u) sz)) (va_A (w u) sz)) 0 0 (va_A (w u) sz)
def ql_Ml (l : Launch) (y : MethodName) (ws : List Cond) (rm : Room) (D : va_G) (tys : List (ClassId × FieldType)) {σ : Type} (w : σ → va_W) (av : List Value) (u : σ) (res : Int64 × σ) : Prop :=
  ∀ sz : Nat, Met l y ws rm (ql_Pre D tys (w u) av sz) (va_Ql (fun r u' => (r, u') = res) (ql_B D w (va_A (w u) sz)) (va_A (w u) sz)) 0 0 (va_A (w u) sz)
def ql_Mv (l : Launch) (y : MethodName) (ws : List Cond) (rm : Room) (D : va_G) (tys : List (ClassId × FieldType)) {σ : Type} (w : σ → va_W) (av : List Value) (u : σ) (res : σ) : Prop :=
  ∀ sz : Nat, Met l y ws rm (ql_Pre D tys (w u) av sz) (va_Qv (fun u' => u' = res) (ql_B D w (va_A (w u) sz)) (va_A (w u) sz)) 0 0 (va_A (w u) sz)
/-- contracts of a method that only reads -/
def ql_Ri (l : Launch) (y : MethodName) (ws : List Cond) (rm : Room) (D : va_G) (tys : List (ClassId × FieldType)) (wr : va_W) (av : List Value) (r0 : Int32) : Prop :=
  ∀ sz : Nat, Met l y ws rm (ql_Prr D tys wr av sz) (va_Qi (fun r (_ : Unit) => r = r0) (fun _ _ => True) (va_A [] sz)) 0 0 (va_A [] sz)
def ql_Rl (l : Launch) (y : MethodName) (ws : List Cond) (rm : Room) (D : va_G) (tys : List (ClassId × FieldType)) (wr : va_W) (av : List Value) (r0 : Int64) : Prop :=
  ∀ sz : Nat, Met l y ws rm (ql_Prr D tys wr av sz) (va_Ql (fun r (_ : Unit) => r = r0) (fun _ _ => True) (va_A [] sz)) 0 0 (va_A [] sz)
/-- what stands all along a walk -/
def ql_C (p : Program) (s : State) (m : MethodId) (args : Array Value) (meth : Method) (c : Code) (cc : ByteArray) (maxL : Nat) (ret : Option FieldType) (ws : List Cond) (own : String) (D : va_G) (tys : List (ClassId × FieldType)) (A : Nat → Prop) : Prop :=
  p.tables.exec = Jvm.exec ∧ c.code = cc ∧ meth.sig.returnType = ret ∧ c.maxLocals = maxL ∧ s.vm.findClass own = some m.cls ∧ (∀ w ∈ ws, w.before args s = true) ∧ meth.locks = false ∧ ql_K D tys s ∧ ∀ q, s.heap.size ≤ q → A q
abbrev ql_Qi (below : List Frame) (D : va_G) {σ : Type} (w : σ → va_W) (A : Nat → Prop) (args : Array Value) (s : State) (res : Int32 × σ) : State → Prop := MQ below (va_Qi (fun r u' => (r, u') = res) (ql_B D w A) A) args s 0 0 A
abbrev ql_Ql (below : List Frame) (D : va_G) {σ : Type} (w : σ → va_W) (A : Nat → Prop) (args : Array Value) (s : State) (res : Int64 × σ) : State → Prop := MQ below (va_Ql (fun r u' => (r, u') = res) (ql_B D w A) A) args s 0 0 A
abbrev ql_Qv (below : List Frame) (D : va_G) {σ : Type} (w : σ → va_W) (A : Nat → Prop) (args : Array Value) (s : State) (res : σ) : State → Prop := MQ below (va_Qv (fun u' => u' = res) (ql_B D w A) A) args s 0 0 A
abbrev ql_Qri (below : List Frame) (A : Nat → Prop) (args : Array Value) (s : State) (r0 : Int32) : State → Prop := MQ below (va_Qi (fun r (_ : Unit) => r = r0) (fun _ _ => True) A) args s 0 0 A
abbrev ql_Qrl (below : List Frame) (A : Nat → Prop) (args : Array Value) (s : State) (r0 : Int64) : State → Prop := MQ below (va_Ql (fun r (_ : Unit) => r = r0) (fun _ _ => True) A) args s 0 0 A
section QLE
variable {l : Launch} {y : MethodName} {ws ws' : List Cond} {rm : Room} {D : va_G} {tys : List (ClassId × FieldType)} {σ : Type} {w : σ → va_W} {wr : va_W} {av : List Value} {u : σ} {cc : ByteArray} {maxL : Nat} {ret : Option FieldType}
theorem ql_start_i {res : Int32 × σ} (hy : plainName y.cls = true) (hw : ws = Cond.code y cc maxL ret :: ws') (hlen : (lg_sl av).length ≤ maxL)
    (body : ∀ (p : Program) (e : Env) (s : State) (m : MethodId) (below : List Frame) (meth : Method) (c : Code) (A : Nat → Prop) (ls : Array Slot), ql_C p s m av.toArray meth c cc maxL ret ws y.cls D tys A → lv_has ls maxL (lv_args 0 av) → va_P D vwCl (w u) s.heap → va_D A (w u) → va_S A s.heap s.heap [] →
      W p l e rm s m av.toArray below meth c s.heap [] 0 0 (ql_Qi below D w A av.toArray s res) (F0 m 0 ls [])) : ql_Mi l y ws rm D tys w av u res := by
  intro sz
  refine Met.ofW (cc := cc) (maxL := maxL) (ret := ret) hy hw ?_
  intro p e s m args below meth c s₁ B hml hv
  obtain ⟨rfl, hsz, hP, hK, hD0⟩ := hv
  subst hsz
  rw [lg_entry_eq]
  exact body p e s m below meth c _ _ ⟨B.exec, B.bytes, B.returns, hml, findClass_of_methodNamed B.named, atoms_spec (ws := ws) B.pre, B.notSynchronized, hK, fun q h => Or.inr h⟩ (lv_entry av hlen) hP hD0.self va_S.rf
theorem ql_start_l {res : Int64 × σ} (hy : plainName y.cls = true) (hw : ws = Cond.code y cc maxL ret :: ws') (hlen : (lg_sl av).length ≤ maxL)
    (body : ∀ (p : Program) (e : Env) (s : State) (m : MethodId) (below : List Frame) (meth : Method) (c : Code) (A : Nat → Prop) (ls : Array Slot), ql_C p s m av.toArray meth c cc maxL ret ws y.cls D tys A → lv_has ls maxL (lv_args 0 av) → va_P D vwCl (w u) s.heap → va_D A (w u) → va_S A s.heap s.heap [] →
      W p l e rm s m av.toArray below meth c s.heap [] 0 0 (ql_Ql below D w A av.toArray s res) (F0 m 0 ls [])) : ql_Ml l y ws rm D tys w av u res := by
  intro sz
  refine Met.ofW (cc := cc) (maxL := maxL) (ret := ret) hy hw ?_
  intro p e s m args below meth c s₁ B hml hv
  obtain ⟨rfl, hsz, hP, hK, hD0⟩ := hv
  subst hsz
  rw [lg_entry_eq]
  exact body p e s m below meth c _ _ ⟨B.exec, B.bytes, B.returns, hml, findClass_of_methodNamed B.named, atoms_spec (ws := ws) B.pre, B.notSynchronized, hK, fun q h => Or.inr h⟩ (lv_entry av hlen) hP hD0.self va_S.rf
theorem ql_start_v {res : σ} (hy : plainName y.cls = true) (hw : ws = Cond.code y cc maxL ret :: ws') (hlen : (lg_sl av).length ≤ maxL)
    (body : ∀ (p : Program) (e : Env) (s : State) (m : MethodId) (below : List Frame) (meth : Method) (c : Code) (A : Nat → Prop) (ls : Array Slot), ql_C p s m av.toArray meth c cc maxL ret ws y.cls D tys A → lv_has ls maxL (lv_args 0 av) → va_P D vwCl (w u) s.heap → va_D A (w u) → va_S A s.heap s.heap [] →
      W p l e rm s m av.toArray below meth c s.heap [] 0 0 (ql_Qv below D w A av.toArray s res) (F0 m 0 ls [])) : ql_Mv l y ws rm D tys w av u res := by
  intro sz
  refine Met.ofW (cc := cc) (maxL := maxL) (ret := ret) hy hw ?_
  intro p e s m args below meth c s₁ B hml hv
  obtain ⟨rfl, hsz, hP, hK, hD0⟩ := hv
  subst hsz
  rw [lg_entry_eq]
  exact body p e s m below meth c _ _ ⟨B.exec, B.bytes, B.returns, hml, findClass_of_methodNamed B.named, atoms_spec (ws := ws) B.pre, B.notSynchronized, hK, fun q h => Or.inr h⟩ (lv_entry av hlen) hP hD0.self va_S.rf
theorem ql_start_ri {r0 : Int32} (hy : plainName y.cls = true) (hw : ws = Cond.code y cc maxL ret :: ws') (hlen : (lg_sl av).length ≤ maxL)
    (body : ∀ (p : Program) (e : Env) (s : State) (m : MethodId) (below : List Frame) (meth : Method) (c : Code) (A : Nat → Prop) (ls : Array Slot), ql_C p s m av.toArray meth c cc maxL ret ws y.cls D tys A → lv_has ls maxL (lv_args 0 av) → va_P D vwCl wr s.heap → va_S A s.heap s.heap [] →
      W p l e rm s m av.toArray below meth c s.heap [] 0 0 (ql_Qri below A av.toArray s r0) (F0 m 0 ls [])) : ql_Ri l y ws rm D tys wr av r0 := by
  intro sz
  refine Met.ofW (cc := cc) (maxL := maxL) (ret := ret) hy hw ?_
  intro p e s m args below meth c s₁ B hml hv
  obtain ⟨rfl, hsz, hP, hK⟩ := hv
  subst hsz
  rw [lg_entry_eq]
  exact body p e s m below meth c _ _ ⟨B.exec, B.bytes, B.returns, hml, findClass_of_methodNamed B.named, atoms_spec (ws := ws) B.pre, B.notSynchronized, hK, fun q h => Or.inr h⟩ (lv_entry av hlen) hP va_S.rf
theorem ql_start_rl {r0 : Int64} (hy : plainName y.cls = true) (hw : ws = Cond.code y cc maxL ret :: ws') (hlen : (lg_sl av).length ≤ maxL)
    (body : ∀ (p : Program) (e : Env) (s : State) (m : MethodId) (below : List Frame) (meth : Method) (c : Code) (A : Nat → Prop) (ls : Array Slot), ql_C p s m av.toArray meth c cc maxL ret ws y.cls D tys A → lv_has ls maxL (lv_args 0 av) → va_P D vwCl wr s.heap → va_S A s.heap s.heap [] →
      W p l e rm s m av.toArray below meth c s.heap [] 0 0 (ql_Qrl below A av.toArray s r0) (F0 m 0 ls [])) : ql_Rl l y ws rm D tys wr av r0 := by
  intro sz
  refine Met.ofW (cc := cc) (maxL := maxL) (ret := ret) hy hw ?_
  intro p e s m args below meth c s₁ B hml hv
  obtain ⟨rfl, hsz, hP, hK⟩ := hv
  subst hsz
  rw [lg_entry_eq]
  exact body p e s m below meth c _ _ ⟨B.exec, B.bytes, B.returns, hml, findClass_of_methodNamed B.named, atoms_spec (ws := ws) B.pre, B.notSynchronized, hK, fun q h => Or.inr h⟩ (lv_entry av hlen) hP va_S.rf
end QLE
theorem ql_fm {α β : Type} {f : α → Option β} : ∀ (is : List α) (w : List β), is.map f = w.map some → is.filterMap f = w
  | [], [], _ => rfl
  | [], _ :: _, h => by cases h
  | _ :: _, [], h => by cases h
  | a :: is, b :: w, h => by
    simp only [List.map_cons, List.cons.injEq] at h
    rw [List.filterMap_cons, h.1]
    simp only []
    rw [ql_fm is w h.2]
section QLW
variable {p : Program} {l : Launch} {e : Env} {R : Room} {s : State} {m : MethodId} {args : Array Value} {below : List Frame} {meth : Method} {c : Code} {H : Heap} {locs : List Loc}
variable {cc : ByteArray} {pc maxL : Nat} {ret : Option FieldType} {ws : List Cond} {own : String} {D : va_G} {tys : List (ClassId × FieldType)} {A : Nat → Prop} {ls : Array Slot} {σ : Type} {w : σ → va_W}
theorem ql_iret {v : Int32} {u : σ} {res : Int32 × σ} (C0 : ql_C p s m args meth c cc maxL (some .int) ws own D tys A) (hf : some (v, u) = some res) (hP : va_P D vwCl (w u) H) (hD : va_D A (w u)) (hS : va_S A s.heap H locs) (hdg : decode cc pc = .ok (.ireturn, 1)) :
    W p l e R s m args below meth c H locs 0 0 (ql_Qi below D w A args s res) (F0 m pc ls [.int v]) := by
  obtain ⟨hx, hb, hr, hml, hown, hts, hlocks, hK, hA⟩ := C0
  exact W.iret hx hb hr (fun t ht hW => ⟨⟨v, u, rfl, Option.some.inj hf, by rw [ht]; exact hP, hD⟩, hS.F ht⟩) hS.2.2 hdg
theorem ql_zret {v : Int32} {u : σ} {res : Int32 × σ} (C0 : ql_C p s m args meth c cc maxL (some .boolean) ws own D tys A) (hz : v = 0 ∨ v = 1) (hf : some (v, u) = some res) (hP : va_P D vwCl (w u) H) (hD : va_D A (w u)) (hS : va_S A s.heap H locs) (hdg : decode cc pc = .ok (.ireturn, 1)) :
    W p l e R s m args below meth c H locs 0 0 (ql_Qi below D w A args s res) (F0 m pc ls [.int v]) := by
  obtain ⟨hx, hb, hr, hml, hown, hts, hlocks, hK, hA⟩ := C0
  exact W.zret hx hb hr (by rcases hz with rfl | rfl <;> rfl) (fun t ht hW => ⟨⟨v, u, rfl, Option.some.inj hf, by rw [ht]; exact hP, hD⟩, hS.F ht⟩) hS.2.2 hdg
theorem ql_lret {v : Int64} {u : σ} {res : Int64 × σ} (C0 : ql_C p s m args meth c cc maxL (some .long) ws own D tys A) (hf : some (v, u) = some res) (hP : va_P D vwCl (w u) H) (hD : va_D A (w u)) (hS : va_S A s.heap H locs) (hdg : decode cc pc = .ok (.lreturn, 1)) :
    W p l e R s m args below meth c H locs 0 0 (ql_Ql below D w A args s res) (F0 m pc ls [.long v]) := by
  obtain ⟨hx, hb, hr, hml, hown, hts, hlocks, hK, hA⟩ := C0
  exact W.lret hx hb hr (fun t ht hW => ⟨⟨v, u, rfl, Option.some.inj hf, by rw [ht]; exact hP, hD⟩, hS.F ht⟩) hS.2.2 hdg
theorem ql_vret {u : σ} {res : σ} (C0 : ql_C p s m args meth c cc maxL none ws own D tys A) (hf : some u = some res) (hP : va_P D vwCl (w u) H) (hD : va_D A (w u)) (hS : va_S A s.heap H locs) (hdg : decode cc pc = .ok (.return_, 1)) :
    W p l e R s m args below meth c H locs 0 0 (ql_Qv below D w A args s res) (F0 m pc ls []) := by
  obtain ⟨hx, hb, hr, hml, hown, hts, hlocks, hK, hA⟩ := C0
  exact W.vret hx hb hr (fun t ht hW => ⟨⟨u, rfl, Option.some.inj hf, by rw [ht]; exact hP, hD⟩, hS.F ht⟩) hS.2.2 hdg
theorem ql_riret {v r0 : Int32} (C0 : ql_C p s m args meth c cc maxL (some .int) ws own D tys A) (hf : some v = some r0) (hS : va_S A s.heap H locs) (hdg : decode cc pc = .ok (.ireturn, 1)) :
    W p l e R s m args below meth c H locs 0 0 (ql_Qri below A args s r0) (F0 m pc ls [.int v]) := by
  obtain ⟨hx, hb, hr, hml, hown, hts, hlocks, hK, hA⟩ := C0
  exact W.iret hx hb hr (fun t ht hW => ⟨⟨v, (), rfl, Option.some.inj hf, trivial⟩, hS.F ht⟩) hS.2.2 hdg
theorem ql_rzret {v r0 : Int32} (C0 : ql_C p s m args meth c cc maxL (some .boolean) ws own D tys A) (hz : v = 0 ∨ v = 1) (hf : some v = some r0) (hS : va_S A s.heap H locs) (hdg : decode cc pc = .ok (.ireturn, 1)) :
    W p l e R s m args below meth c H locs 0 0 (ql_Qri below A args s r0) (F0 m pc ls [.int v]) := by
  obtain ⟨hx, hb, hr, hml, hown, hts, hlocks, hK, hA⟩ := C0
  exact W.zret hx hb hr (by rcases hz with rfl | rfl <;> rfl) (fun t ht hW => ⟨⟨v, (), rfl, Option.some.inj hf, trivial⟩, hS.F ht⟩) hS.2.2 hdg
theorem ql_rlret {v r0 : Int64} (C0 : ql_C p s m args meth c cc maxL (some .long) ws own D tys A) (hf : some v = some r0) (hS : va_S A s.heap H locs) (hdg : decode cc pc = .ok (.lreturn, 1)) :
    W p l e R s m args below meth c H locs 0 0 (ql_Qrl below A args s r0) (F0 m pc ls [.long v]) := by
  obtain ⟨hx, hb, hr, hml, hown, hts, hlocks, hK, hA⟩ := C0
  exact W.lret hx hb hr (fun t ht hW => ⟨⟨v, (), rfl, Option.some.inj hf, trivial⟩, hS.F ht⟩) hS.2.2 hdg
/-! calls: the callee's world is the caller's whole world -/
variable {Q : State → Prop} {y : MethodName} {bytes : ByteArray} {maxL' index n : Nat} {ret' : Option FieldType} {ws' : List Cond} {rm' : Room} {Cn : String} {b : Addr} {As rest st0 : List Value} {u : σ} {wr : va_W} {tys' : List (ClassId × FieldType)}
theorem ql_keep {ws : va_W} {H1 : Heap} (hP : va_P D vwCl ws H) (h : ∀ q : Nat, q < H.size → H1[q]? = H[q]?) : va_P D vwCl ws H1 := hP.kept (fun k q hk => h q.1 ((hP k q hk).lt))
theorem ql_nA {q sz : Nat} (h : q < sz) : ¬ va_A [] sz q := by
  rintro (⟨k, e, hk⟩ | h2)
  · simp at hk
  · omega
theorem ql_callVi {res : Int32 × σ} (C0 : ql_C p s m args meth c cc maxL ret ws own D tys A) (hM : ql_Mi l y ws' rm' D tys w (.ref b :: As) u res) (cw : CallW R s args own Cn index y bytes maxL' ret' ws' rm' 0 0 n)
    (hrc : ∃ cell : Cell, H[b]? = some cell ∧ cell.vm.isStatics = false ∧ s.vm.findClass Cn = some cell.cls) (hP : va_P D vwCl (w u) H) (hD : va_D A (w u)) (hS : va_S A s.heap H locs) (hl : ls.size = maxL) (hn : As.length = n) (hst : st0 = As.reverse ++ .ref b :: rest) (hroom : (rest.map fun v => v.category).sum ≤ 8) (hdg : decode cc pc = .ok (.invokevirtual index, 3))
    (kk : ∀ (H1 : Heap) (locs1 : List Loc), va_P D vwCl (w res.2) H1 → va_D A (w res.2) → va_S A s.heap H1 locs1 → W p l e R s m args below meth c H1 locs1 0 0 Q (F0 m (pc + 3) ls (.int res.1 :: rest))) : W p l e R s m args below meth c H locs 0 0 Q (F0 m pc ls st0) := by
  obtain ⟨hx, hb, hr, hml, hown, hts, hlocks, hK, hA⟩ := C0
  have hF : ∀ q, va_A (w u) H.size q → A q := fun q h => by
    rcases h with ⟨k, e, h⟩ | h
    · exact hD.2 k _ h
    · exact hA q (Nat.le_trans hS.1 h)
  refine va_calli (va_runV (As := As) (rest := rest) ⟨hx, hb, hml, hown, hts⟩ (hM H.size) cw ⟨ql_Pre.blind, hrc, fun U hU hW => ⟨rfl, by rw [hU], by rw [hU]; exact hP, hK.warm hW, hD.weaken (fun _ _ _ _ => trivial)⟩⟩ rfl hn hl hst (lv_room hroom) hdg ⟨Nat.zero_le _, Nat.zero_le _⟩) hS (fun q _ h => hF q h) hF (fun r u' t H1 locs ht hvm hw hB hz1 hk1 hS => ?_)
  subst hw
  obtain ⟨hP1, hD1⟩ := hB
  rw [ht] at hP1
  exact kk H1 _ hP1 (hD1.weaken (fun k q _ h => hF q.1 h)) hS
theorem ql_callVl {res : Int64 × σ} (C0 : ql_C p s m args meth c cc maxL ret ws own D tys A) (hM : ql_Ml l y ws' rm' D tys w (.ref b :: As) u res) (cw : CallW R s args own Cn index y bytes maxL' ret' ws' rm' 0 0 n)
    (hrc : ∃ cell : Cell, H[b]? = some cell ∧ cell.vm.isStatics = false ∧ s.vm.findClass Cn = some cell.cls) (hP : va_P D vwCl (w u) H) (hD : va_D A (w u)) (hS : va_S A s.heap H locs) (hl : ls.size = maxL) (hn : As.length = n) (hst : st0 = As.reverse ++ .ref b :: rest) (hroom : (rest.map fun v => v.category).sum ≤ 8) (hdg : decode cc pc = .ok (.invokevirtual index, 3))
    (kk : ∀ (H1 : Heap) (locs1 : List Loc), va_P D vwCl (w res.2) H1 → va_D A (w res.2) → va_S A s.heap H1 locs1 → W p l e R s m args below meth c H1 locs1 0 0 Q (F0 m (pc + 3) ls (.long res.1 :: rest))) : W p l e R s m args below meth c H locs 0 0 Q (F0 m pc ls st0) := by
  obtain ⟨hx, hb, hr, hml, hown, hts, hlocks, hK, hA⟩ := C0
  have hF : ∀ q, va_A (w u) H.size q → A q := fun q h => by
    rcases h with ⟨k, e, h⟩ | h
    · exact hD.2 k _ h
    · exact hA q (Nat.le_trans hS.1 h)
  refine va_calll (va_runV (As := As) (rest := rest) ⟨hx, hb, hml, hown, hts⟩ (hM H.size) cw ⟨ql_Pre.blind, hrc, fun U hU hW => ⟨rfl, by rw [hU], by rw [hU]; exact hP, hK.warm hW, hD.weaken (fun _ _ _ _ => trivial)⟩⟩ rfl hn hl hst (lv_room hroom) hdg ⟨Nat.zero_le _, Nat.zero_le _⟩) hS (fun q _ h => hF q h) hF (fun r u' t H1 locs ht hvm hw hB hz1 hk1 hS => ?_)
  subst hw
  obtain ⟨hP1, hD1⟩ := hB
  rw [ht] at hP1
  exact kk H1 _ hP1 (hD1.weaken (fun k q _ h => hF q.1 h)) hS
theorem ql_callVv {res : σ} (C0 : ql_C p s m args meth c cc maxL ret ws own D tys A) (hM : ql_Mv l y ws' rm' D tys w (.ref b :: As) u res) (cw : CallW R s args own Cn index y bytes maxL' ret' ws' rm' 0 0 n)
    (hrc : ∃ cell : Cell, H[b]? = some cell ∧ cell.vm.isStatics = false ∧ s.vm.findClass Cn = some cell.cls) (hP : va_P D vwCl (w u) H) (hD : va_D A (w u)) (hS : va_S A s.heap H locs) (hl : ls.size = maxL) (hn : As.length = n) (hst : st0 = As.reverse ++ .ref b :: rest) (hroom : (rest.map fun v => v.category).sum ≤ 8) (hdg : decode cc pc = .ok (.invokevirtual index, 3))
    (kk : ∀ (H1 : Heap) (locs1 : List Loc), va_P D vwCl (w res) H1 → va_D A (w res) → va_S A s.heap H1 locs1 → W p l e R s m args below meth c H1 locs1 0 0 Q (F0 m (pc + 3) ls rest)) : W p l e R s m args below meth c H locs 0 0 Q (F0 m pc ls st0) := by
  obtain ⟨hx, hb, hr, hml, hown, hts, hlocks, hK, hA⟩ := C0
  have hF : ∀ q, va_A (w u) H.size q → A q := fun q h => by
    rcases h with ⟨k, e, h⟩ | h
    · exact hD.2 k _ h
    · exact hA q (Nat.le_trans hS.1 h)
  refine va_callv (va_runV (As := As) (rest := rest) ⟨hx, hb, hml, hown, hts⟩ (hM H.size) cw ⟨ql_Pre.blind, hrc, fun U hU hW => ⟨rfl, by rw [hU], by rw [hU]; exact hP, hK.warm hW, hD.weaken (fun _ _ _ _ => trivial)⟩⟩ rfl hn hl hst (lv_room hroom) hdg ⟨Nat.zero_le _, Nat.zero_le _⟩) hS (fun q _ h => hF q h) hF (fun u' t H1 locs ht hvm hw hB hz1 hk1 hS => ?_)
  subst hw
  obtain ⟨hP1, hD1⟩ := hB
  rw [ht] at hP1
  exact kk H1 _ hP1 (hD1.weaken (fun k q _ h => hF q.1 h)) hS
/-! calls of methods that only read: the heap stays -/
theorem ql_callRVi {r0 : Int32} (C0 : ql_C p s m args meth c cc maxL ret ws own D tys A) (hM : ql_Ri l y ws' rm' D tys' wr (.ref b :: As) r0) (cw : CallW R s args own Cn index y bytes maxL' ret' ws' rm' 0 0 n)
    (hrc : ∃ cell : Cell, H[b]? = some cell ∧ cell.vm.isStatics = false ∧ s.vm.findClass Cn = some cell.cls) (hKr : ql_K D tys' s) (hPr : va_P D vwCl wr H) (hS : va_S A s.heap H locs) (hl : ls.size = maxL) (hn : As.length = n) (hst : st0 = As.reverse ++ .ref b :: rest) (hroom : (rest.map fun v => v.category).sum ≤ 8) (hdg : decode cc pc = .ok (.invokevirtual index, 3))
    (kk : ∀ (H1 : Heap) (locs1 : List Loc), (∀ q : Nat, q < H.size → H1[q]? = H[q]?) → va_S A s.heap H1 locs1 → W p l e R s m args below meth c H1 locs1 0 0 Q (F0 m (pc + 3) ls (.int r0 :: rest))) : W p l e R s m args below meth c H locs 0 0 Q (F0 m pc ls st0) := by
  obtain ⟨hx, hb, hr, hml, hown, hts, hlocks, hK, hA⟩ := C0
  have hF : ∀ q, va_A [] H.size q → A q := fun q h => by
    rcases h with ⟨k, e, h⟩ | h
    · simp at h
    · exact hA q (Nat.le_trans hS.1 h)
  refine va_calli (va_runV (As := As) (rest := rest) ⟨hx, hb, hml, hown, hts⟩ (hM H.size) cw ⟨ql_Prr.blind, hrc, fun U hU hW => ⟨rfl, by rw [hU], by rw [hU]; exact hPr, hKr.warm hW⟩⟩ rfl hn hl hst (lv_room hroom) hdg ⟨Nat.zero_le _, Nat.zero_le _⟩) hS (fun q _ h => hF q h) hF (fun r u' t H1 locs ht hvm hw hB hz1 hk1 hS => ?_)
  subst hw
  exact kk H1 _ (fun q h => hk1 q h (ql_nA h)) hS
theorem ql_callRVl {r0 : Int64} (C0 : ql_C p s m args meth c cc maxL ret ws own D tys A) (hM : ql_Rl l y ws' rm' D tys' wr (.ref b :: As) r0) (cw : CallW R s args own Cn index y bytes maxL' ret' ws' rm' 0 0 n)
    (hrc : ∃ cell : Cell, H[b]? = some cell ∧ cell.vm.isStatics = false ∧ s.vm.findClass Cn = some cell.cls) (hKr : ql_K D tys' s) (hPr : va_P D vwCl wr H) (hS : va_S A s.heap H locs) (hl : ls.size = maxL) (hn : As.length = n) (hst : st0 = As.reverse ++ .ref b :: rest) (hroom : (rest.map fun v => v.category).sum ≤ 8) (hdg : decode cc pc = .ok (.invokevirtual index, 3))
    (kk : ∀ (H1 : Heap) (locs1 : List Loc), (∀ q : Nat, q < H.size → H1[q]? = H[q]?) → va_S A s.heap H1 locs1 → W p l e R s m args below meth c H1 locs1 0 0 Q (F0 m (pc + 3) ls (.long r0 :: rest))) : W p l e R s m args below meth c H locs 0 0 Q (F0 m pc ls st0) := by
  obtain ⟨hx, hb, hr, hml, hown, hts, hlocks, hK, hA⟩ := C0
  have hF : ∀ q, va_A [] H.size q → A q := fun q h => by
    rcases h with ⟨k, e, h⟩ | h
    · simp at h
    · exact hA q (Nat.le_trans hS.1 h)
  refine va_calll (va_runV (As := As) (rest := rest) ⟨hx, hb, hml, hown, hts⟩ (hM H.size) cw ⟨ql_Prr.blind, hrc, fun U hU hW => ⟨rfl, by rw [hU], by rw [hU]; exact hPr, hKr.warm hW⟩⟩ rfl hn hl hst (lv_room hroom) hdg ⟨Nat.zero_le _, Nat.zero_le _⟩) hS (fun q _ h => hF q h) hF (fun r u' t H1 locs ht hvm hw hB hz1 hk1 hS => ?_)
  subst hw
  exact kk H1 _ (fun q h => hk1 q h (ql_nA h)) hS
theorem ql_callRSi {r0 : Int32} (C0 : ql_C p s m args meth c cc maxL ret ws own D tys A) (hM : ql_Ri l y ws' rm' D tys' wr As r0) (cw : CallB R s args own index y bytes maxL' ret' ws' rm' 0 0 n ∧ (Cond.static y).before args s = true)
    (hKr : ql_K D tys' s) (hPr : va_P D vwCl wr H) (hS : va_S A s.heap H locs) (hl : ls.size = maxL) (hn : As.length = n) (hst : st0 = As.reverse ++ rest) (hroom : (rest.map fun v => v.category).sum ≤ 8) (hdg : decode cc pc = .ok (.invokestatic index, 3))
    (kk : ∀ (H1 : Heap) (locs1 : List Loc), (∀ q : Nat, q < H.size → H1[q]? = H[q]?) → va_S A s.heap H1 locs1 → W p l e R s m args below meth c H1 locs1 0 0 Q (F0 m (pc + 3) ls (.int r0 :: rest))) : W p l e R s m args below meth c H locs 0 0 Q (F0 m pc ls st0) := by
  obtain ⟨hx, hb, hr, hml, hown, hts, hlocks, hK, hA⟩ := C0
  have hF : ∀ q, va_A [] H.size q → A q := fun q h => by
    rcases h with ⟨k, e, h⟩ | h
    · simp at h
    · exact hA q (Nat.le_trans hS.1 h)
  refine va_calli (va_runS (As := As) (rest := rest) ⟨hx, hb, hml, hown, hts⟩ (hM H.size) cw ⟨ql_Prr.blind, fun U hU hW => ⟨rfl, by rw [hU], by rw [hU]; exact hPr, hKr.warm hW⟩⟩ rfl hn hl hst (lv_room hroom) hdg ⟨Nat.zero_le _, Nat.zero_le _⟩) hS (fun q _ h => hF q h) hF (fun r u' t H1 locs ht hvm hw hB hz1 hk1 hS => ?_)
  subst hw
  exact kk H1 _ (fun q h => hk1 q h (ql_nA h)) hS
theorem ql_callRNi {r0 : Int32} {host : String} (C0 : ql_C p s m args meth c cc maxL ret ws own D tys A) (hM : ql_Ri l y ws' rm' D tys' wr As r0) (cw : va_CN R s args own index y host bytes maxL' ret' ws' rm' 0 0 n ∧ (Cond.static y).before args s = true ∧ True)
    (hKr : ql_K D tys' s) (hPr : va_P D vwCl wr H) (hS : va_S A s.heap H locs) (hl : ls.size = maxL) (hn : As.length = n) (hst : st0 = As.reverse ++ rest) (hroom : (rest.map fun v => v.category).sum ≤ 8) (hdg : decode cc pc = .ok (.invokestatic index, 3))
    (kk : ∀ (H1 : Heap) (locs1 : List Loc), (∀ q : Nat, q < H.size → H1[q]? = H[q]?) → va_S A s.heap H1 locs1 → W p l e R s m args below meth c H1 locs1 0 0 Q (F0 m (pc + 3) ls (.int r0 :: rest))) : W p l e R s m args below meth c H locs 0 0 Q (F0 m pc ls st0) := by
  obtain ⟨hx, hb, hr, hml, hown, hts, hlocks, hK, hA⟩ := C0
  have hF : ∀ q, va_A [] H.size q → A q := fun q h => by
    rcases h with ⟨k, e, h⟩ | h
    · simp at h
    · exact hA q (Nat.le_trans hS.1 h)
  refine va_calli (va_runSN (As := As) (rest := rest) ⟨hx, hb, hml, hown, hts⟩ (hM H.size) cw ⟨ql_Prr.blind, fun U hU hW => ⟨rfl, by rw [hU], by rw [hU]; exact hPr, hKr.warm hW⟩⟩ rfl hn hl hst (lv_room hroom) hdg ⟨Nat.zero_le _, Nat.zero_le _⟩) hS (fun q _ h => hF q h) hF (fun r u' t H1 locs ht hvm hw hB hz1 hk1 hS => ?_)
  subst hw
  exact kk H1 _ (fun q h => hk1 q h (ql_nA h)) hS
theorem ql_subVi {σ' : Type} {w' : σ' → va_W} {u' : σ'} {res : Int32 × σ'} {wc wr : va_W} (C0 : ql_C p s m args meth c cc maxL ret ws own D tys A) (hM : ql_Mi l y ws' rm' D tys' w' (.ref b :: As) u' res) (cw : CallW R s args own Cn index y bytes maxL' ret' ws' rm' 0 0 n) (hKr : ql_K D tys' s)
    (isC isR : List Nat) (hC : isC.map (fun i => wc[i]?) = (w' u').map some) (hR : isR.map (fun i => wc[i]?) = wr.map some) (hnC : va_nd isC = true) (hnR : va_nd isR = true) (hdis : ∀ i ∈ isR, i ∉ isC)
    (hrc : ∃ cell : Cell, H[b]? = some cell ∧ cell.vm.isStatics = false ∧ s.vm.findClass Cn = some cell.cls) (hP : va_P D vwCl wc H) (hD : va_D A wc) (hS : va_S A s.heap H locs) (hl : ls.size = maxL) (hn : As.length = n) (hst : st0 = As.reverse ++ .ref b :: rest) (hroom : (rest.map fun v => v.category).sum ≤ 8) (hdg : decode cc pc = .ok (.invokevirtual index, 3))
    (kk : ∀ (H1 : Heap) (locs1 : List Loc), va_P D vwCl (wr ++ w' res.2) H1 → va_D A (wr ++ w' res.2) → va_S A s.heap H1 locs1 → W p l e R s m args below meth c H1 locs1 0 0 Q (F0 m (pc + 3) ls (.int res.1 :: rest))) : W p l e R s m args below meth c H locs 0 0 Q (F0 m pc ls st0) := by
  obtain ⟨hx, hb, hr, hml, hown, hts, hlocks, hK, hA⟩ := C0
  have hPc := hP.sub isC (ql_fm _ _ hC)
  have hDc := hD.sub isC hnC hC
  have hFc := va_free (wc := w' u') hD hS hA isC hC
  refine va_calli (va_runV (As := As) (rest := rest) ⟨hx, hb, hml, hown, hts⟩ (hM H.size) cw ⟨ql_Pre.blind, hrc, fun U hU hW => ⟨rfl, by rw [hU], by rw [hU]; exact hPc, hKr.warm hW, hDc.weaken (fun _ _ _ _ => trivial)⟩⟩ rfl hn hl hst (lv_room hroom) hdg ⟨Nat.zero_le _, Nat.zero_le _⟩) hS (fun q _ h => hFc q h) hFc (fun r u1 t H1 locs ht hvm hw hB hz1 hk1 hS => ?_)
  subst hw
  obtain ⟨hP1, hD1⟩ := hB
  rw [ht] at hP1
  obtain ⟨hP, hD⟩ := va_join hP hD isC isR hC hR hnR hdis hk1 hFc hP1 hD1
  exact kk H1 _ hP hD hS
theorem ql_subVl {σ' : Type} {w' : σ' → va_W} {u' : σ'} {res : Int64 × σ'} {wc wr : va_W} (C0 : ql_C p s m args meth c cc maxL ret ws own D tys A) (hM : ql_Ml l y ws' rm' D tys' w' (.ref b :: As) u' res) (cw : CallW R s args own Cn index y bytes maxL' ret' ws' rm' 0 0 n) (hKr : ql_K D tys' s)
    (isC isR : List Nat) (hC : isC.map (fun i => wc[i]?) = (w' u').map some) (hR : isR.map (fun i => wc[i]?) = wr.map some) (hnC : va_nd isC = true) (hnR : va_nd isR = true) (hdis : ∀ i ∈ isR, i ∉ isC)
    (hrc : ∃ cell : Cell, H[b]? = some cell ∧ cell.vm.isStatics = false ∧ s.vm.findClass Cn = some cell.cls) (hP : va_P D vwCl wc H) (hD : va_D A wc) (hS : va_S A s.heap H locs) (hl : ls.size = maxL) (hn : As.length = n) (hst : st0 = As.reverse ++ .ref b :: rest) (hroom : (rest.map fun v => v.category).sum ≤ 8) (hdg : decode cc pc = .ok (.invokevirtual index, 3))
    (kk : ∀ (H1 : Heap) (locs1 : List Loc), va_P D vwCl (wr ++ w' res.2) H1 → va_D A (wr ++ w' res.2) → va_S A s.heap H1 locs1 → W p l e R s m args below meth c H1 locs1 0 0 Q (F0 m (pc + 3) ls (.long res.1 :: rest))) : W p l e R s m args below meth c H locs 0 0 Q (F0 m pc ls st0) := by
  obtain ⟨hx, hb, hr, hml, hown, hts, hlocks, hK, hA⟩ := C0
  have hPc := hP.sub isC (ql_fm _ _ hC)
  have hDc := hD.sub isC hnC hC
  have hFc := va_free (wc := w' u') hD hS hA isC hC
  refine va_calll (va_runV (As := As) (rest := rest) ⟨hx, hb, hml, hown, hts⟩ (hM H.size) cw ⟨ql_Pre.blind, hrc, fun U hU hW => ⟨rfl, by rw [hU], by rw [hU]; exact hPc, hKr.warm hW, hDc.weaken (fun _ _ _ _ => trivial)⟩⟩ rfl hn hl hst (lv_room hroom) hdg ⟨Nat.zero_le _, Nat.zero_le _⟩) hS (fun q _ h => hFc q h) hFc (fun r u1 t H1 locs ht hvm hw hB hz1 hk1 hS => ?_)
  subst hw
  obtain ⟨hP1, hD1⟩ := hB
  rw [ht] at hP1
  obtain ⟨hP, hD⟩ := va_join hP hD isC isR hC hR hnR hdis hk1 hFc hP1 hD1
  exact kk H1 _ hP hD hS
theorem ql_subVv {σ' : Type} {w' : σ' → va_W} {u' : σ'} {res : σ'} {wc wr : va_W} (C0 : ql_C p s m args meth c cc maxL ret ws own D tys A) (hM : ql_Mv l y ws' rm' D tys' w' (.ref b :: As) u' res) (cw : CallW R s args own Cn index y bytes maxL' ret' ws' rm' 0 0 n) (hKr : ql_K D tys' s)
    (isC isR : List Nat) (hC : isC.map (fun i => wc[i]?) = (w' u').map some) (hR : isR.map (fun i => wc[i]?) = wr.map some) (hnC : va_nd isC = true) (hnR : va_nd isR = true) (hdis : ∀ i ∈ isR, i ∉ isC)
    (hrc : ∃ cell : Cell, H[b]? = some cell ∧ cell.vm.isStatics = false ∧ s.vm.findClass Cn = some cell.cls) (hP : va_P D vwCl wc H) (hD : va_D A wc) (hS : va_S A s.heap H locs) (hl : ls.size = maxL) (hn : As.length = n) (hst : st0 = As.reverse ++ .ref b :: rest) (hroom : (rest.map fun v => v.category).sum ≤ 8) (hdg : decode cc pc = .ok (.invokevirtual index, 3))
    (kk : ∀ (H1 : Heap) (locs1 : List Loc), va_P D vwCl (wr ++ w' res) H1 → va_D A (wr ++ w' res) → va_S A s.heap H1 locs1 → W p l e R s m args below meth c H1 locs1 0 0 Q (F0 m (pc + 3) ls (rest))) : W p l e R s m args below meth c H locs 0 0 Q (F0 m pc ls st0) := by
  obtain ⟨hx, hb, hr, hml, hown, hts, hlocks, hK, hA⟩ := C0
  have hPc := hP.sub isC (ql_fm _ _ hC)
  have hDc := hD.sub isC hnC hC
  have hFc := va_free (wc := w' u') hD hS hA isC hC
  refine va_callv (va_runV (As := As) (rest := rest) ⟨hx, hb, hml, hown, hts⟩ (hM H.size) cw ⟨ql_Pre.blind, hrc, fun U hU hW => ⟨rfl, by rw [hU], by rw [hU]; exact hPc, hKr.warm hW, hDc.weaken (fun _ _ _ _ => trivial)⟩⟩ rfl hn hl hst (lv_room hroom) hdg ⟨Nat.zero_le _, Nat.zero_le _⟩) hS (fun q _ h => hFc q h) hFc (fun  u1 t H1 locs ht hvm hw hB hz1 hk1 hS => ?_)
  subst hw
  obtain ⟨hP1, hD1⟩ := hB
  rw [ht] at hP1
  obtain ⟨hP, hD⟩ := va_join hP hD isC isR hC hR hnR hdis hk1 hFc hP1 hD1
  exact kk H1 _ hP hD hS
end QLW
section QLX
variable {p : Program} {l : Launch} {e : Env} {R : Room} {s : State} {m : MethodId} {args : Array Value} {below : List Frame} {meth : Method} {c : Code} {H : Heap} {locs : List Loc} {cells slots : Nat} {Q : State → Prop} {pc : Nat} {ls : Array Slot} {rest : List Value}
theorem ql_tv {x y : Int32} (h : x = y) (k : W p l e R s m args below meth c H locs cells slots Q (F0 m pc ls (.int y :: rest))) : W p l e R s m args below meth c H locs cells slots Q (F0 m pc ls (.int x :: rest)) := by rw [h]; exact k
theorem ql_tvl {x y : Int64} (h : x = y) (k : W p l e R s m args below meth c H locs cells slots Q (F0 m pc ls (.long y :: rest))) : W p l e R s m args below meth c H locs cells slots Q (F0 m pc ls (.long x :: rest)) := by rw [h]; exact k
end QLX
theorem ql_nil {D : va_G} {H : Heap} : va_P D vwCl [] H := fun k q h => by simp at h
def ql_bz (v : Int32) : Bool := decide (v = 0) || decide (v = 1)
theorem ql_bzo {v : Int32} (h : ql_bz v = true) : v = 0 ∨ v = 1 := by
  simp only [ql_bz, Bool.or_eq_true, decide_eq_true_eq] at h
  exact h
theorem ql_ne {x k : Int32} (h : ¬ x = k) : x.toInt ≠ k.toInt := fun e => h (Int32.toInt_inj.mp e)
