/-! two worlds side by side: the class's and the reference's; a call in the one leaves the other -/
def ql_ap (a b : va_W) : Prop := ∀ (i j : Nat) (p q : Nat × va_E), a[i]? = some p → b[j]? = some q → p.1 ≠ q.1
theorem ql_ap.sy {a b : va_W} (h : ql_ap a b) : ql_ap b a := fun i j p q hi hj e => h j i q p hj hi e.symm
theorem ql_sP {D : va_G} {a b : va_W} {H : Heap} (h : va_P D vwCl (a ++ b) H) : va_P D vwCl a H ∧ va_P D vwCl b H := by
  refine ⟨fun k q hk => h k q ?_, fun k q hk => h (a.length + k) q ?_⟩
  · have hl := (List.getElem?_eq_some_iff.mp hk).1
    rw [List.getElem?_append_left hl]; exact hk
  · rw [List.getElem?_append_right (by omega), show a.length + k - a.length = k by omega]; exact hk
theorem ql_sD {A : Nat → Prop} {a b : va_W} (h : va_D A (a ++ b)) : va_D A a ∧ va_D A b ∧ ql_ap a b := by
  have l : ∀ k q, a[k]? = some q → (a ++ b)[k]? = some q := fun k q hk => by
    have hl := (List.getElem?_eq_some_iff.mp hk).1
    rw [List.getElem?_append_left hl]; exact hk
  have r : ∀ k q, b[k]? = some q → (a ++ b)[a.length + k]? = some q := fun k q hk => by
    rw [List.getElem?_append_right (by omega), show a.length + k - a.length = k by omega]; exact hk
  refine ⟨⟨fun i j p q hi hj e => h.1 i j p q (l i p hi) (l j q hj) e, fun k q hk => h.2 k q (l k q hk)⟩, ⟨fun i j p q hi hj e => ?_, fun k q hk => h.2 _ q (r k q hk)⟩, fun i j p q hi hj e => ?_⟩
  · have := h.1 _ _ p q (r i p hi) (r j q hj) e
    omega
  · have := h.1 _ _ p q (l i p hi) (r j q hj) e
    have hl := (List.getElem?_eq_some_iff.mp hi).1
    omega
section QLL
variable {p : Program} {l : Launch} {e : Env} {R : Room} {s : State} {m : MethodId} {args : Array Value} {below : List Frame} {meth : Method} {c : Code} {H : Heap} {locs : List Loc}
variable {cc : ByteArray} {pc maxL : Nat} {ret : Option FieldType} {ws : List Cond} {own : String} {D : va_G} {tys : List (ClassId × FieldType)} {A : Nat → Prop} {ls : Array Slot} {σ : Type} {w : σ → va_W}
variable {cells slots : Nat}
variable {Q : State → Prop} {y : MethodName} {bytes : ByteArray} {maxL' index n : Nat} {ret' : Option FieldType} {ws' : List Cond} {rm' : Room} {Cn : String} {b : Addr} {As rest st0 : List Value} {u : σ} {wr : va_W} {tys' : List (ClassId × FieldType)} {adK adV : Nat → Nat}
theorem lc_kept {wu : va_W} {H1 : Heap} (hPr : va_P D vwCl wr H) (hap : ql_ap wu wr) (hk1 : ∀ q : Nat, q < H.size → ¬ va_A wu H.size q → H1[q]? = H[q]?) : va_P D vwCl wr H1 :=
  hPr.kept (fun k q hk => hk1 q.1 ((hPr k q hk).lt) (fun h => by
    rcases h with ⟨k', e', h⟩ | h
    · exact hap k' k (q.1, e') q h hk rfl
    · exact absurd h (Nat.not_le.mpr (hPr k q hk).lt)))
theorem lc_ap {wu w1 : va_W} (hPr : va_P D vwCl wr H) (hap : ql_ap wu wr) (hD1 : va_D (va_A wu H.size) w1) : ql_ap w1 wr := fun i j p q hi hj e => by
  rcases hD1.2 i p hi with ⟨k', e', h⟩ | h
  · exact hap k' j (p.1, e') q h hj e
  · have := (hPr j q hj).lt
    rw [← e] at this
    exact absurd h (Nat.not_le.mpr this)
theorem lc_free {wu : va_W} (hD : va_D A wu) (hS : va_S A s.heap H locs) (hA : ∀ q, s.heap.size ≤ q → A q) : ∀ q, va_A wu H.size q → A q := fun q h => by
  rcases h with ⟨k, e, h⟩ | h
  · exact hD.2 k _ h
  · exact hA q (Nat.le_trans hS.1 h)
theorem lc_Vi {res : Int32 × σ} (C0 : ql_C p s m args meth c cc maxL ret ws own D tys A) (hM : ql_Mi l y ws' rm' D tys' w (.ref b :: As) u res) (cw : CallW R s args own Cn index y bytes maxL' ret' ws' rm' 0 0 n) (hKr : ql_K D tys' s)
    (hrc : ∃ cell : Cell, H[b]? = some cell ∧ cell.vm.isStatics = false ∧ s.vm.findClass Cn = some cell.cls) (hP : va_P D vwCl (w u) H) (hD : va_D A (w u)) (hPr : va_P D vwCl wr H) (hap : ql_ap (w u) wr) (hS : va_S A s.heap H locs) (hfz : cells ≤ R.cells ∧ slots ≤ R.slots) (hl : ls.size = maxL) (hn : As.length = n) (hst : st0 = As.reverse ++ .ref b :: rest) (hroom : (rest.map fun v => v.category).sum ≤ 8) (hdg : decode cc pc = .ok (.invokevirtual index, 3))
    (kk : ∀ (H1 : Heap) (locs1 : List Loc), va_P D vwCl (w res.2) H1 → va_D A (w res.2) → va_P D vwCl wr H1 → ql_ap (w res.2) wr → va_S A s.heap H1 locs1 → W p l e R s m args below meth c H1 locs1 cells slots Q (F0 m (pc + 3) ls (.int res.1 :: rest))) : W p l e R s m args below meth c H locs cells slots Q (F0 m pc ls st0) := by
  obtain ⟨hx, hb, hr, hml, hown, hts, hlocks, hK, hA⟩ := C0
  have hF := lc_free hD hS hA
  refine va_calli (va_runV (As := As) (rest := rest) ⟨hx, hb, hml, hown, hts⟩ (hM H.size) cw ⟨ql_Pre.blind, hrc, fun U hU hW => ⟨rfl, by rw [hU], by rw [hU]; exact hP, hKr.warm hW, hD.weaken (fun _ _ _ _ => trivial)⟩⟩ rfl hn hl hst (lv_room hroom) hdg hfz) hS (fun q _ h => hF q h) hF (fun r u' t H1 locs ht hvm hw hB hz1 hk1 hS => ?_)
  subst hw
  obtain ⟨hP1, hD1⟩ := hB
  rw [ht] at hP1
  exact kk H1 _ hP1 (hD1.weaken (fun k q _ h => hF q.1 h)) (lc_kept hPr hap hk1) (lc_ap hPr hap hD1) hS
theorem lc_Vl {res : Int64 × σ} (C0 : ql_C p s m args meth c cc maxL ret ws own D tys A) (hM : ql_Ml l y ws' rm' D tys' w (.ref b :: As) u res) (cw : CallW R s args own Cn index y bytes maxL' ret' ws' rm' 0 0 n) (hKr : ql_K D tys' s)
    (hrc : ∃ cell : Cell, H[b]? = some cell ∧ cell.vm.isStatics = false ∧ s.vm.findClass Cn = some cell.cls) (hP : va_P D vwCl (w u) H) (hD : va_D A (w u)) (hPr : va_P D vwCl wr H) (hap : ql_ap (w u) wr) (hS : va_S A s.heap H locs) (hfz : cells ≤ R.cells ∧ slots ≤ R.slots) (hl : ls.size = maxL) (hn : As.length = n) (hst : st0 = As.reverse ++ .ref b :: rest) (hroom : (rest.map fun v => v.category).sum ≤ 8) (hdg : decode cc pc = .ok (.invokevirtual index, 3))
    (kk : ∀ (H1 : Heap) (locs1 : List Loc), va_P D vwCl (w res.2) H1 → va_D A (w res.2) → va_P D vwCl wr H1 → ql_ap (w res.2) wr → va_S A s.heap H1 locs1 → W p l e R s m args below meth c H1 locs1 cells slots Q (F0 m (pc + 3) ls (.long res.1 :: rest))) : W p l e R s m args below meth c H locs cells slots Q (F0 m pc ls st0) := by
  obtain ⟨hx, hb, hr, hml, hown, hts, hlocks, hK, hA⟩ := C0
  have hF := lc_free hD hS hA
  refine va_calll (va_runV (As := As) (rest := rest) ⟨hx, hb, hml, hown, hts⟩ (hM H.size) cw ⟨ql_Pre.blind, hrc, fun U hU hW => ⟨rfl, by rw [hU], by rw [hU]; exact hP, hKr.warm hW, hD.weaken (fun _ _ _ _ => trivial)⟩⟩ rfl hn hl hst (lv_room hroom) hdg hfz) hS (fun q _ h => hF q h) hF (fun r u' t H1 locs ht hvm hw hB hz1 hk1 hS => ?_)
  subst hw
  obtain ⟨hP1, hD1⟩ := hB
  rw [ht] at hP1
  exact kk H1 _ hP1 (hD1.weaken (fun k q _ h => hF q.1 h)) (lc_kept hPr hap hk1) (lc_ap hPr hap hD1) hS
theorem lc_ViE {res : Int32 × σ} (C0 : ql_C p s m args meth c cc maxL ret ws own D tys A) (hE : ql_E adK adV A s s.heap) (hM : ql_MiE adK adV l y ws' rm' D tys' w (.ref b :: As) u res) (cw : CallW R s args own Cn index y bytes maxL' ret' ws' rm' 0 0 n) (hKr : ql_K D tys' s)
    (hrc : ∃ cell : Cell, H[b]? = some cell ∧ cell.vm.isStatics = false ∧ s.vm.findClass Cn = some cell.cls) (hP : va_P D vwCl (w u) H) (hD : va_D A (w u)) (hPr : va_P D vwCl wr H) (hap : ql_ap (w u) wr) (hS : va_S A s.heap H locs) (hfz : cells ≤ R.cells ∧ slots ≤ R.slots) (hl : ls.size = maxL) (hn : As.length = n) (hst : st0 = As.reverse ++ .ref b :: rest) (hroom : (rest.map fun v => v.category).sum ≤ 8) (hdg : decode cc pc = .ok (.invokevirtual index, 3))
    (kk : ∀ (H1 : Heap) (locs1 : List Loc), va_P D vwCl (w res.2) H1 → va_D A (w res.2) → va_P D vwCl wr H1 → ql_ap (w res.2) wr → va_S A s.heap H1 locs1 → W p l e R s m args below meth c H1 locs1 cells slots Q (F0 m (pc + 3) ls (.int res.1 :: rest))) : W p l e R s m args below meth c H locs cells slots Q (F0 m pc ls st0) := by
  obtain ⟨hx, hb, hr, hml, hown, hts, hlocks, hK, hA⟩ := C0
  have hF := lc_free hD hS hA
  refine va_calli (va_runV (As := As) (rest := rest) ⟨hx, hb, hml, hown, hts⟩ (hM H.size) cw ⟨ql_PreE.blind, hrc, fun U hU hW => ⟨rfl, by rw [hU], by rw [hU]; exact hP, hKr.warm hW, hD.weaken (fun _ _ _ _ => trivial), hE.go hS hF hW hU⟩⟩ rfl hn hl hst (lv_room hroom) hdg hfz) hS (fun q _ h => hF q h) hF (fun r u' t H1 locs ht hvm hw hB hz1 hk1 hS => ?_)
  subst hw
  obtain ⟨hP1, hD1⟩ := hB
  rw [ht] at hP1
  exact kk H1 _ hP1 (hD1.weaken (fun k q _ h => hF q.1 h)) (lc_kept hPr hap hk1) (lc_ap hPr hap hD1) hS
theorem lc_Ri {r0 : Int32} (C0 : ql_C p s m args meth c cc maxL ret ws own D tys A) (hM : ql_Ri l y ws' rm' D tys' wr (.ref b :: As) r0) (cw : CallW R s args own Cn index y bytes maxL' ret' ws' rm' 0 0 n)
    (hrc : ∃ cell : Cell, H[b]? = some cell ∧ cell.vm.isStatics = false ∧ s.vm.findClass Cn = some cell.cls) (hKr : ql_K D tys' s) (hPr : va_P D vwCl wr H) (hS : va_S A s.heap H locs) (hfz : cells ≤ R.cells ∧ slots ≤ R.slots) (hl : ls.size = maxL) (hn : As.length = n) (hst : st0 = As.reverse ++ .ref b :: rest) (hroom : (rest.map fun v => v.category).sum ≤ 8) (hdg : decode cc pc = .ok (.invokevirtual index, 3))
    (kk : ∀ (H1 : Heap) (locs1 : List Loc), (∀ q : Nat, q < H.size → H1[q]? = H[q]?) → va_S A s.heap H1 locs1 → W p l e R s m args below meth c H1 locs1 cells slots Q (F0 m (pc + 3) ls (.int r0 :: rest))) : W p l e R s m args below meth c H locs cells slots Q (F0 m pc ls st0) := by
  obtain ⟨hx, hb, hr, hml, hown, hts, hlocks, hK, hA⟩ := C0
  have hF : ∀ q, va_A [] H.size q → A q := fun q h => by
    rcases h with ⟨k, e, h⟩ | h
    · simp at h
    · exact hA q (Nat.le_trans hS.1 h)
  refine va_calli (va_runV (As := As) (rest := rest) ⟨hx, hb, hml, hown, hts⟩ (hM H.size) cw ⟨ql_Prr.blind, hrc, fun U hU hW => ⟨rfl, by rw [hU], by rw [hU]; exact hPr, hKr.warm hW⟩⟩ rfl hn hl hst (lv_room hroom) hdg hfz) hS (fun q _ h => hF q h) hF (fun r u' t H1 locs ht hvm hw hB hz1 hk1 hS => ?_)
  subst hw
  exact kk H1 _ (fun q h => hk1 q h (ql_nA h)) hS
theorem lc_Rl {r0 : Int64} (C0 : ql_C p s m args meth c cc maxL ret ws own D tys A) (hM : ql_Rl l y ws' rm' D tys' wr (.ref b :: As) r0) (cw : CallW R s args own Cn index y bytes maxL' ret' ws' rm' 0 0 n)
    (hrc : ∃ cell : Cell, H[b]? = some cell ∧ cell.vm.isStatics = false ∧ s.vm.findClass Cn = some cell.cls) (hKr : ql_K D tys' s) (hPr : va_P D vwCl wr H) (hS : va_S A s.heap H locs) (hfz : cells ≤ R.cells ∧ slots ≤ R.slots) (hl : ls.size = maxL) (hn : As.length = n) (hst : st0 = As.reverse ++ .ref b :: rest) (hroom : (rest.map fun v => v.category).sum ≤ 8) (hdg : decode cc pc = .ok (.invokevirtual index, 3))
    (kk : ∀ (H1 : Heap) (locs1 : List Loc), (∀ q : Nat, q < H.size → H1[q]? = H[q]?) → va_S A s.heap H1 locs1 → W p l e R s m args below meth c H1 locs1 cells slots Q (F0 m (pc + 3) ls (.long r0 :: rest))) : W p l e R s m args below meth c H locs cells slots Q (F0 m pc ls st0) := by
  obtain ⟨hx, hb, hr, hml, hown, hts, hlocks, hK, hA⟩ := C0
  have hF : ∀ q, va_A [] H.size q → A q := fun q h => by
    rcases h with ⟨k, e, h⟩ | h
    · simp at h
    · exact hA q (Nat.le_trans hS.1 h)
  refine va_calll (va_runV (As := As) (rest := rest) ⟨hx, hb, hml, hown, hts⟩ (hM H.size) cw ⟨ql_Prr.blind, hrc, fun U hU hW => ⟨rfl, by rw [hU], by rw [hU]; exact hPr, hKr.warm hW⟩⟩ rfl hn hl hst (lv_room hroom) hdg hfz) hS (fun q _ h => hF q h) hF (fun r u' t H1 locs ht hvm hw hB hz1 hk1 hS => ?_)
  subst hw
  exact kk H1 _ (fun q h => hk1 q h (ql_nA h)) hS
/-- a constructor, beside another world -/
theorem lc_I {mc ms : Nat} {B : (Nat → Prop) → State → Prop} {o : va_E} (C0 : ql_C p s m args meth c cc maxL ret ws own D tys A) (hM : ql_I l y ws' rm' D tys' [(b, o)] [.ref b] mc ms B) (cw : CallB R s args own index y bytes maxL' none ws' rm' mc ms 0 ∧ y.name = "<init>" ∧ (Cond.instanceMethod y).before args s = true) (hKr : ql_K D tys' s)
    (hP : va_P D vwCl [(b, o)] H) (hD : va_D A [(b, o)]) (hPr : va_P D vwCl wr H) (hap : ql_ap [(b, o)] wr) (hS : va_S A s.heap H locs) (hl : ls.size = maxL) (hst : st0 = .ref b :: rest) (hroom : (rest.map fun v => v.category).sum ≤ 8) (hf : cells + mc ≤ R.cells ∧ slots + ms ≤ R.slots) (hdg : decode cc pc = .ok (.invokespecial index, 3))
    (kk : ∀ (t : State) (H1 : Heap) (locs1 : List Loc), t.heap = H1 → s.vm.Alike t.vm → B (va_A [(b, o)] H.size) t → (∀ w1 : va_W, va_D (va_A [(b, o)] H.size) w1 → va_D A w1 ∧ ql_ap w1 wr) → va_P D vwCl wr H1 → va_S A s.heap H1 locs1 → W p l e R s m args below meth c H1 locs1 (cells + mc) (slots + ms) Q (F0 m (pc + 3) ls rest)) : W p l e R s m args below meth c H locs cells slots Q (F0 m pc ls st0) := by
  obtain ⟨hx, hb, hr, hml, hown, hts, hlocks, hK, hA⟩ := C0
  have hF := lc_free hD hS hA
  refine va_callv (va_runI (As := []) (rest := rest) ⟨hx, hb, hml, hown, hts⟩ (hM H.size) cw ⟨ql_Pre.blind, fun U hU hW => ⟨rfl, by rw [hU], by rw [hU]; exact hP, hKr.warm hW, hD.weaken (fun _ _ _ _ => trivial)⟩⟩ rfl rfl hl hst (lv_room hroom) hdg hf) hS (fun q _ h => hF q h) hF (fun u1 t H1 locs ht hvm hw hB hz1 hk1 hS => ?_)
  exact kk t H1 _ ht hvm hB (fun w1 hD1 => ⟨hD1.weaken (fun k q _ h => hF q.1 h), lc_ap hPr hap hD1⟩) (lc_kept hPr hap hk1) hS
end QLL
/-! TestedLoops(): what it needs beside: arrays of plans and of kinds, the kinds castable -/
def ql_Zz (U : State) : Prop := va_AO RX6 U ∧ va_AO RX5 U ∧ va_Nw (.castable RX0 RX5) U ∧ va_Nw (.castable RX1 RX5) U ∧ va_Nw (.castable RX3 RX5) U ∧ va_Nw (.castable RX9 RX5) U
theorem ql_Zz.warm {s U : State} (h : ql_Zz s) (hW : s.WarmedH U.vm) : ql_Zz U := ⟨h.1.moved hW.alike, h.2.1.moved hW.alike, va_Nw.warmC hW h.2.2.1, va_Nw.warmC hW h.2.2.2.1, va_Nw.warmC hW h.2.2.2.2.1, va_Nw.warmC hW h.2.2.2.2.2⟩
theorem ql_Zz.blind {U : State} {g : JFrame} {mk : MethodId} {a : Array Value} (h : ql_Zz U) : ql_Zz (U.calling g mk a) := ⟨h.1.moved (u := U) (U := U.calling g mk a) (Vm.Alike.refl U.vm), h.2.1.moved (u := U) (U := U.calling g mk a) (Vm.Alike.refl U.vm), va_Nw.same rfl rfl h.2.2.1, va_Nw.same rfl rfl h.2.2.2.1, va_Nw.same rfl rfl h.2.2.2.2.1, va_Nw.same rfl rfl h.2.2.2.2.2⟩
def ql_PreZ (D : va_G) (tys : List (ClassId × FieldType)) (wu : va_W) (av : List Value) (sz : Nat) : Array Value → State → Prop := va_Pc av (fun U => U.heap.size = sz ∧ va_P D vwCl wu U.heap ∧ ql_K D tys U ∧ va_D (fun _ => True) wu ∧ ql_Zz U)
theorem ql_PreZ.blind {D : va_G} {tys : List (ClassId × FieldType)} {wu : va_W} {av : List Value} {sz : Nat} : FrameBlind (ql_PreZ D tys wu av sz) := fun a U g mk q => by
  obtain ⟨q0, q1, qP, qK, qD, qZ⟩ := q
  exact ⟨q0, q1, qP, qK.blind, qD, qZ.blind⟩
def ql_IZ (l : Launch) (y : MethodName) (ws : List Cond) (rm : Room) (D : va_G) (tys : List (ClassId × FieldType)) (w0 : va_W) (av : List Value) (mc ms : Nat) (B : (Nat → Prop) → State → Prop) : Prop :=
  ∀ sz : Nat, Met l y ws rm (ql_PreZ D tys w0 av sz) (va_Qv (fun (_ : Unit) => True) (fun _ t => B (va_A w0 sz) t) (va_A w0 sz)) mc ms (va_A w0 sz)
theorem ql_start_IZ {l : Launch} {y : MethodName} {ws ws' : List Cond} {rm : Room} {D : va_G} {tys : List (ClassId × FieldType)} {w0 : va_W} {av : List Value} {cc : ByteArray} {maxL mc ms : Nat} {B : (Nat → Prop) → State → Prop} (hy : plainName y.cls = true) (hw : ws = Cond.code y cc maxL none :: ws') (hlen : (lg_sl av).length ≤ maxL) (hyn : y.name = "<init>")
    (body : ∀ (p : Program) (e : Env) (s : State) (m : MethodId) (below : List Frame) (meth : Method) (c : Code) (A : Nat → Prop) (ls : Array Slot), ql_C p s m av.toArray meth c cc maxL none ws y.cls D tys A → ql_Zz s → meth.name = "<init>" → lv_has ls maxL (lv_args 0 av) → va_P D vwCl w0 s.heap → va_D A w0 → va_S A s.heap s.heap [] →
      W p l e rm s m av.toArray below meth c s.heap [] 0 0 (ql_QI below A av.toArray s mc ms B) (F0 m 0 ls [])) : ql_IZ l y ws rm D tys w0 av mc ms B := by
  intro sz
  refine Met.ofW (cc := cc) (maxL := maxL) (ret := none) hy hw ?_
  intro p e s m args below meth c s₁ B1 hml hv
  obtain ⟨rfl, hsz, hP, hK, hD0, hZ⟩ := hv
  subst hsz
  rw [lg_entry_eq]
  exact body p e s m below meth c _ _ ⟨B1.exec, B1.bytes, B1.returns, hml, findClass_of_methodNamed B1.named, atoms_spec (ws := ws) B1.pre, B1.notSynchronized, hK, fun q h => Or.inr h⟩ hZ ((name_of_methodNamed B1.named B1.method).1.trans hyn) (lv_entry av hlen) hP hD0.self va_S.rf
section QLZ
variable {p : Program} {l : Launch} {e : Env} {R : Room} {s : State} {m : MethodId} {args : Array Value} {below : List Frame} {meth : Method} {c : Code} {H : Heap} {locs : List Loc}
variable {cc : ByteArray} {pc maxL : Nat} {ret : Option FieldType} {ws : List Cond} {own : String} {D : va_G} {tys : List (ClassId × FieldType)} {A : Nat → Prop} {ls : Array Slot}
variable {cells slots : Nat}
variable {Q : State → Prop} {y : MethodName} {bytes : ByteArray} {maxL' index : Nat} {ws' : List Cond} {rm' : Room} {b : Addr} {rest st0 : List Value} {wr : va_W} {tys' : List (ClassId × FieldType)}
theorem lc_IZ {mc ms : Nat} {B : (Nat → Prop) → State → Prop} {o : va_E} (C0 : ql_C p s m args meth c cc maxL ret ws own D tys A) (hZ : ql_Zz s) (hM : ql_IZ l y ws' rm' D tys' [(b, o)] [.ref b] mc ms B) (cw : CallB R s args own index y bytes maxL' none ws' rm' mc ms 0 ∧ y.name = "<init>" ∧ (Cond.instanceMethod y).before args s = true) (hKr : ql_K D tys' s)
    (hP : va_P D vwCl [(b, o)] H) (hD : va_D A [(b, o)]) (hPr : va_P D vwCl wr H) (hap : ql_ap [(b, o)] wr) (hS : va_S A s.heap H locs) (hl : ls.size = maxL) (hst : st0 = .ref b :: rest) (hroom : (rest.map fun v => v.category).sum ≤ 8) (hf : cells + mc ≤ R.cells ∧ slots + ms ≤ R.slots) (hdg : decode cc pc = .ok (.invokespecial index, 3))
    (kk : ∀ (t : State) (H1 : Heap) (locs1 : List Loc), t.heap = H1 → s.vm.Alike t.vm → B (va_A [(b, o)] H.size) t → (∀ w1 : va_W, va_D (va_A [(b, o)] H.size) w1 → va_D A w1 ∧ ql_ap w1 wr) → va_P D vwCl wr H1 → va_S A s.heap H1 locs1 → W p l e R s m args below meth c H1 locs1 (cells + mc) (slots + ms) Q (F0 m (pc + 3) ls rest)) : W p l e R s m args below meth c H locs cells slots Q (F0 m pc ls st0) := by
  obtain ⟨hx, hb, hr, hml, hown, hts, hlocks, hK, hA⟩ := C0
  have hF := lc_free hD hS hA
  refine va_callv (va_runI (As := []) (rest := rest) ⟨hx, hb, hml, hown, hts⟩ (hM H.size) cw ⟨ql_PreZ.blind, fun U hU hW => ⟨rfl, by rw [hU], by rw [hU]; exact hP, hKr.warm hW, hD.weaken (fun _ _ _ _ => trivial), hZ.warm hW⟩⟩ rfl rfl hl hst (lv_room hroom) hdg hf) hS (fun q _ h => hF q h) hF (fun u1 t H1 locs ht hvm hw hB hz1 hk1 hS => ?_)
  exact kk t H1 _ ht hvm hB (fun w1 hD1 => ⟨hD1.weaken (fun k q _ h => hF q.1 h), lc_ap hPr hap hD1⟩) (lc_kept hPr hap hk1) hS
end QLZ
