/-! constructors -/
abbrev ql_z0 : ql_Z := ((fun _ _ => 0), (fun _ _ => 0))
def ql_I (l : Launch) (y : MethodName) (ws : List Cond) (rm : Room) (D : va_G) (tys : List (ClassId × FieldType)) (w0 : va_W) (av : List Value) (mc ms : Nat) (B : (Nat → Prop) → State → Prop) : Prop :=
  ∀ sz : Nat, Met l y ws rm (ql_Pre D tys w0 av sz) (va_Qv (fun (_ : Unit) => True) (fun _ t => B (va_A w0 sz) t) (va_A w0 sz)) mc ms (va_A w0 sz)
abbrev ql_QI (below : List Frame) (A : Nat → Prop) (args : Array Value) (s : State) (mc ms : Nat) (B : (Nat → Prop) → State → Prop) : State → Prop := MQ below (va_Qv (fun (_ : Unit) => True) (fun _ t => B A t) A) args s mc ms A
theorem ql_start_I {l : Launch} {y : MethodName} {ws ws' : List Cond} {rm : Room} {D : va_G} {tys : List (ClassId × FieldType)} {w0 : va_W} {av : List Value} {cc : ByteArray} {maxL mc ms : Nat} {B : (Nat → Prop) → State → Prop} (hy : plainName y.cls = true) (hw : ws = Cond.code y cc maxL none :: ws') (hlen : (lg_sl av).length ≤ maxL) (hyn : y.name = "<init>")
    (body : ∀ (p : Program) (e : Env) (s : State) (m : MethodId) (below : List Frame) (meth : Method) (c : Code) (A : Nat → Prop) (ls : Array Slot), ql_C p s m av.toArray meth c cc maxL none ws y.cls D tys A → meth.name = "<init>" → lv_has ls maxL (lv_args 0 av) → va_P D vwCl w0 s.heap → va_D A w0 → va_S A s.heap s.heap [] →
      W p l e rm s m av.toArray below meth c s.heap [] 0 0 (ql_QI below A av.toArray s mc ms B) (F0 m 0 ls [])) : ql_I l y ws rm D tys w0 av mc ms B := by
  intro sz
  refine Met.ofW (cc := cc) (maxL := maxL) (ret := none) hy hw ?_
  intro p e s m args below meth c s₁ B1 hml hv
  obtain ⟨rfl, hsz, hP, hK, hD0⟩ := hv
  subst hsz
  rw [lg_entry_eq]
  exact body p e s m below meth c _ _ ⟨B1.exec, B1.bytes, B1.returns, hml, findClass_of_methodNamed B1.named, atoms_spec (ws := ws) B1.pre, B1.notSynchronized, hK, fun q h => Or.inr h⟩ ((name_of_methodNamed B1.named B1.method).1.trans hyn) (lv_entry av hlen) hP hD0.self va_S.rf
theorem ql_same {D : va_G} {tys : List (ClassId × FieldType)} {s : State} {c1 c2 : ClassId} {ty : FieldType} (hp : match ty with | .object _ => False | _ => True) (h : va_K D vwCl tys s) (i j : Nat) (hi : tys[i]? = some (c1, ty)) (hj : tys[j]? = some (c2, ty)) : c1 = c2 := by
  have h1 := (h.2 i _ hi).2
  have h2 := (h.2 j _ hj).2
  cases ty <;> first | (exact absurd hp (fun q => q)) | exact Option.some.inj (h1.symm.trans h2)
theorem ql_cint (n : Nat) (cA : ClassId) : vp_cell cA (n, .inl (fun _ => 0)) = arrV cA n (fun _ => defaultValue .int) := rfl
theorem ql_cboolean (n : Nat) (cA : ClassId) : vp_cell cA (n, .inl (fun _ => 0)) = arrV cA n (fun _ => defaultValue .boolean) := rfl
theorem ql_cbyte (n : Nat) (cA : ClassId) : vp_cell cA (n, .inl (fun _ => 0)) = arrV cA n (fun _ => defaultValue .byte) := rfl
theorem ql_clong (n : Nat) (cA : ClassId) : vp_cell cA (n, .inr (.inl (fun _ => 0))) = arrV cA n (fun _ => defaultValue .long) := rfl
section QLC
variable {p : Program} {l : Launch} {e : Env} {R : Room} {s : State} {m : MethodId} {args : Array Value} {below : List Frame} {meth : Method} {c : Code} {H : Heap} {locs : List Loc}
variable {cc : ByteArray} {pc maxL : Nat} {ret : Option FieldType} {ws : List Cond} {own : String} {D : va_G} {tys : List (ClassId × FieldType)} {A : Nat → Prop} {ls : Array Slot} {σ : Type} {w : σ → va_W}
variable {cells slots : Nat}
variable {Q : State → Prop} {y : MethodName} {bytes : ByteArray} {maxL' index n : Nat} {ret' : Option FieldType} {ws' : List Cond} {rm' : Room} {Cn : String} {b : Addr} {As rest st0 : List Value} {u : σ} {wr : va_W} {tys' : List (ClassId × FieldType)}
theorem ql_Iret {mc ms : Nat} {B : (Nat → Prop) → State → Prop} (C0 : ql_C p s m args meth c cc maxL none ws own D tys A) (hc : cells ≤ mc) (hs : slots ≤ ms) (hB : ∀ t : State, t.heap = H → s.WarmedH t.vm → B A t) (hS : va_S A s.heap H locs) (hdg : decode cc pc = .ok (.return_, 1)) :
    W p l e R s m args below meth c H locs cells slots (ql_QI below A args s mc ms B) (F0 m pc ls []) := by
  obtain ⟨hx, hb, hr, hml, hown, hts, hlocks, hK, hA⟩ := C0
  refine W.widen (k := mc) (n := ms) hc hs ?_
  exact W.vret hx hb hr (fun t ht hW => ⟨⟨(), rfl, trivial, hB t ht hW⟩, hS.F ht⟩) hS.2.2 hdg
theorem ql_callI {mc ms : Nat} {B : (Nat → Prop) → State → Prop} {o : va_E} {wc wr : va_W} (C0 : ql_C p s m args meth c cc maxL ret ws own D tys A) (hM : ql_I l y ws' rm' D tys' [(b, o)] [.ref b] mc ms B) (cw : CallB R s args own index y bytes maxL' none ws' rm' mc ms 0 ∧ y.name = "<init>" ∧ (Cond.instanceMethod y).before args s = true) (hKr : ql_K D tys' s)
    (isC isR : List Nat) (hC : isC.map (fun i => wc[i]?) = [(b, o)].map some) (hR : isR.map (fun i => wc[i]?) = wr.map some) (hnC : va_nd isC = true) (hnR : va_nd isR = true) (hdis : ∀ i ∈ isR, i ∉ isC)
    (hP : va_P D vwCl wc H) (hD : va_D A wc) (hS : va_S A s.heap H locs) (hl : ls.size = maxL) (hst : st0 = .ref b :: rest) (hroom : (rest.map fun v => v.category).sum ≤ 8) (hf : cells + mc ≤ R.cells ∧ slots + ms ≤ R.slots) (hdg : decode cc pc = .ok (.invokespecial index, 3))
    (kk : ∀ (t : State) (H1 : Heap) (locs1 : List Loc), t.heap = H1 → s.vm.Alike t.vm → B (va_A [(b, o)] H.size) t → (∀ w1 : va_W, va_P D vwCl w1 H1 → va_D (va_A [(b, o)] H.size) w1 → va_P D vwCl (wr ++ w1) H1 ∧ va_D A (wr ++ w1)) → va_S A s.heap H1 locs1 → W p l e R s m args below meth c H1 locs1 (cells + mc) (slots + ms) Q (F0 m (pc + 3) ls rest)) : W p l e R s m args below meth c H locs cells slots Q (F0 m pc ls st0) := by
  obtain ⟨hx, hb, hr, hml, hown, hts, hlocks, hK, hA⟩ := C0
  have hPc := hP.sub isC (ql_fm _ _ hC)
  have hDc := hD.sub isC hnC hC
  have hFc := va_free (wc := [(b, o)]) hD hS hA isC hC
  refine va_callv (va_runI (As := []) (rest := rest) ⟨hx, hb, hml, hown, hts⟩ (hM H.size) cw ⟨ql_Pre.blind, fun U hU hW => ⟨rfl, by rw [hU], by rw [hU]; exact hPc, hKr.warm hW, hDc.weaken (fun _ _ _ _ => trivial)⟩⟩ rfl rfl hl hst (lv_room hroom) hdg hf) hS (fun q _ h => hFc q h) hFc (fun u1 t H1 locs ht hvm hw hB hz1 hk1 hS => ?_)
  exact kk t H1 _ ht hvm hB (fun w1 hP1 hD1 => va_join hP hD isC isR hC hR hnR hdis hk1 hFc hP1 hD1) hS
theorem ql_callViC {res : Int32 × σ} (C0 : ql_C p s m args meth c cc maxL ret ws own D tys A) (hM : ql_Mi l y ws' rm' D tys w (.ref b :: As) u res) (cw : CallW R s args own Cn index y bytes maxL' ret' ws' rm' 0 0 n)
    (hrc : ∃ cell : Cell, H[b]? = some cell ∧ cell.vm.isStatics = false ∧ s.vm.findClass Cn = some cell.cls) (hP : va_P D vwCl (w u) H) (hD : va_D A (w u)) (hS : va_S A s.heap H locs) (hfz : cells ≤ R.cells ∧ slots ≤ R.slots) (hl : ls.size = maxL) (hn : As.length = n) (hst : st0 = As.reverse ++ .ref b :: rest) (hroom : (rest.map fun v => v.category).sum ≤ 8) (hdg : decode cc pc = .ok (.invokevirtual index, 3))
    (kk : ∀ (H1 : Heap) (locs1 : List Loc), va_P D vwCl (w res.2) H1 → va_D A (w res.2) → va_S A s.heap H1 locs1 → W p l e R s m args below meth c H1 locs1 cells slots Q (F0 m (pc + 3) ls (.int res.1 :: rest))) : W p l e R s m args below meth c H locs cells slots Q (F0 m pc ls st0) := by
  obtain ⟨hx, hb, hr, hml, hown, hts, hlocks, hK, hA⟩ := C0
  have hF : ∀ q, va_A (w u) H.size q → A q := fun q h => by
    rcases h with ⟨k, e, h⟩ | h
    · exact hD.2 k _ h
    · exact hA q (Nat.le_trans hS.1 h)
  refine va_calli (va_runV (As := As) (rest := rest) ⟨hx, hb, hml, hown, hts⟩ (hM H.size) cw ⟨ql_Pre.blind, hrc, fun U hU hW => ⟨rfl, by rw [hU], by rw [hU]; exact hP, hK.warm hW, hD.weaken (fun _ _ _ _ => trivial)⟩⟩ rfl hn hl hst (lv_room hroom) hdg hfz) hS (fun q _ h => hF q h) hF (fun r u' t H1 locs ht hvm hw hB hz1 hk1 hS => ?_)
  subst hw
  obtain ⟨hP1, hD1⟩ := hB
  rw [ht] at hP1
  exact kk H1 _ hP1 (hD1.weaken (fun k q _ h => hF q.1 h)) hS
theorem ql_callVvC {res : σ} (C0 : ql_C p s m args meth c cc maxL ret ws own D tys A) (hM : ql_Mv l y ws' rm' D tys w (.ref b :: As) u res) (cw : CallW R s args own Cn index y bytes maxL' ret' ws' rm' 0 0 n)
    (hrc : ∃ cell : Cell, H[b]? = some cell ∧ cell.vm.isStatics = false ∧ s.vm.findClass Cn = some cell.cls) (hP : va_P D vwCl (w u) H) (hD : va_D A (w u)) (hS : va_S A s.heap H locs) (hfz : cells ≤ R.cells ∧ slots ≤ R.slots) (hl : ls.size = maxL) (hn : As.length = n) (hst : st0 = As.reverse ++ .ref b :: rest) (hroom : (rest.map fun v => v.category).sum ≤ 8) (hdg : decode cc pc = .ok (.invokevirtual index, 3))
    (kk : ∀ (H1 : Heap) (locs1 : List Loc), va_P D vwCl (w res) H1 → va_D A (w res) → va_S A s.heap H1 locs1 → W p l e R s m args below meth c H1 locs1 cells slots Q (F0 m (pc + 3) ls rest)) : W p l e R s m args below meth c H locs cells slots Q (F0 m pc ls st0) := by
  obtain ⟨hx, hb, hr, hml, hown, hts, hlocks, hK, hA⟩ := C0
  have hF : ∀ q, va_A (w u) H.size q → A q := fun q h => by
    rcases h with ⟨k, e, h⟩ | h
    · exact hD.2 k _ h
    · exact hA q (Nat.le_trans hS.1 h)
  refine va_callv (va_runV (As := As) (rest := rest) ⟨hx, hb, hml, hown, hts⟩ (hM H.size) cw ⟨ql_Pre.blind, hrc, fun U hU hW => ⟨rfl, by rw [hU], by rw [hU]; exact hP, hK.warm hW, hD.weaken (fun _ _ _ _ => trivial)⟩⟩ rfl hn hl hst (lv_room hroom) hdg hfz) hS (fun q _ h => hF q h) hF (fun u' t H1 locs ht hvm hw hB hz1 hk1 hS => ?_)
  subst hw
  obtain ⟨hP1, hD1⟩ := hB
  rw [ht] at hP1
  exact kk H1 _ hP1 (hD1.weaken (fun k q _ h => hF q.1 h)) hS
end QLC
