/-! the law: its world, its end -/
def R_law : String := "TestedLoopsLaw"
def lw_P (b : Addr) (xs : List Int32) (args : Array Value) (s : State) : Prop := args = #[.ref b] ∧ s.IntsAt b xs ∧ xs.length ≤ 3072 ∧ (Jvm.Cond.and given_1 narrow_1).before args s = true
def lw_Q (_ : Array Value) (s : State) (o : Outcome) (t : State) : Prop := o = .returned (some (.int 1)) ∧ Framed s o t [] 600000 7302250
def lw_Z (below : List Frame) (a : Array Value) (s : State) : State → Prop := fun t => ∃ o, t.status = .running ∧ Ended t below o ∧ lw_Q a s o t
/-- the law's own end, with 1 on the stack, nothing written that was there before, its room as the claim has it -/
theorem lw_ret {p : Program} {l : Launch} {e : Env} {s : State} {m : MethodId} {below : List Frame} {meth : Method} {c : Code} {b : Nat} (hx : p.tables.exec = Jvm.exec) (hb : c.code = code) (hr : meth.sig.returnType = ret) (hlocks : meth.locks = false) {pc : Nat} {H : Heap} {ls : Array Slot} (hdg : decode code pc = .ok (.ireturn, 1)) : W p l e room_1 s m #[Value.ref b] below meth c H [] 600000 7302250 (lw_Z below #[Value.ref b] s) (F0 m pc ls [.int 1]) := by
  intro T hT X
  obtain ⟨fs, hret, hrun, hended, hW, hframe⟩ := X.leave (v := some (.int 1)) (hlocks := hlocks) (fun h => by rw [hr] at h; cases h)
  have hmeth' : T.vm.method? m = some meth := X.method'
  refine ⟨T.setFrames fs, ?_, .returned (some (.int 1)), hrun, hended, rfl, ⟨_, rfl⟩, hW, hframe⟩
  jvm_step X.here [X.here.top, hx, hb, hdg, hmeth', hr, ret, narrow_b1]
  (try refine ⟨rfl, ?_⟩); (try refine ⟨rfl, ?_⟩)
  first | (intro acts; rw [hret _ acts rfl rfl rfl]) | rw [hret _ _ rfl rfl rfl]
  exact Steps.refl _
/-- what holds at the law's entry: the machine, the code, the tables' words (any of lw_tbl by 'hts w (by decide +kernel)'), the script of L ints xs at the cell b, what the Statement gives of the start (any of its parts by flat_of_before) -/
def lw_At (p : Program) (s : State) (m : MethodId) (meth : Method) (c : Code) (b L : Nat) (xs : Nat → Int32) : Prop :=
  p.tables.exec = Jvm.exec ∧ c.code = code ∧ meth.sig.returnType = ret ∧ c.maxLocals = 4 ∧ s.vm.findClass R_law = some m.cls ∧ (∀ w ∈ lw_tbl, w.before #[Value.ref b] s = true) ∧ va_X b L xs s s.heap ∧ b < s.heap.size ∧ meth.locks = false ∧ (Jvm.Cond.and given_1 narrow_1).before #[Value.ref b] s = true
abbrev lw_A (s : State) : Nat → Prop := fun q => s.heap.size ≤ q
abbrev lw_tys (cI cJ cB cP cQ cZ : ClassId) : List (ClassId × FieldType) := [(cI, .int), (cJ, .long), (cB, .byte), (cP, .object RX6), (cQ, .object RX5), (cZ, .boolean)]
def lw_Wd (s : State) (dC : Nat → ClassId) (dI : Nat → Nat → Nat) (h : Nat) (ad : Nat → Nat) (aR : Nat) (adr : Nat → Nat) (aG : Nat) (adg : Nat → Nat) (aX : Nat) (adx : Nat → Nat) (aT : Nat) (kd : Nat → Nat) (cI cJ cB cP cQ cZ : ClassId) (g : Nat) (am : Nat → Nat) (u : ql_U) (z : ql_Z) (H : Heap) (locs : List Loc) : Prop :=
  va_P (dC, dI) vwCl (ql_cu h ad aR adr aG adg aX adx aT kd cI cJ cB cP cQ u) H ∧ va_D (lw_A s) (ql_cu h ad aR adr aG adg aX adx aT kd cI cJ cB cP cQ u) ∧ va_P (dC, dI) vwCl (ql_mw g am cI cZ cJ z) H ∧ va_D (lw_A s) (ql_mw g am cI cZ cJ z) ∧ ql_ap (ql_cu h ad aR adr aG adg aX adx aT kd cI cJ cB cP cQ u) (ql_mw g am cI cZ cJ z) ∧ va_S (lw_A s) s.heap H locs
theorem lw_in {i k L : Nat} (h : i + 6 ≤ L) (hL : L ≤ 3072) (hk : k < 6) {x : Int32} (hx : x = ii k) : vp_in (ii i + x) L := by
  rw [hx, ii_add]
  exact ql_in (ii_ib (by omega) (by omega))
theorem lw_in0 {i L : Nat} (h : i + 6 ≤ L) (hL : L ≤ 3072) : vp_in (ii i) L := ql_in (ii_ib (by omega) (by omega))
