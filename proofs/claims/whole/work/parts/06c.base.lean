section QLS
variable {p : Program} {l : Launch} {e : Env} {R : Room} {s : State} {m : MethodId} {args : Array Value} {below : List Frame} {meth : Method} {c : Code} {H : Heap} {locs : List Loc}
variable {cc : ByteArray} {pc maxL : Nat} {ret : Option FieldType} {ws : List Cond} {own : String} {D : va_G} {tys : List (ClassId × FieldType)} {A : Nat → Prop} {ls : Array Slot} {σ : Type} {w : σ → va_W}
variable {Q : State → Prop} {y : MethodName} {bytes : ByteArray} {maxL' index n : Nat} {ret' : Option FieldType} {ws' : List Cond} {rm' : Room} {Cn : String} {b : Addr} {As rest st0 : List Value} {u : σ} {wr : va_W} {tys' : List (ClassId × FieldType)}
theorem ql_superi {σ' : Type} {w' : σ' → va_W} {u' : σ'} {res : Int32 × σ'} {wc wr : va_W} (C0 : ql_C p s m args meth c cc maxL ret ws own D tys A) (hM : ql_Mi l y ws' rm' D tys' w' (.ref b :: As) u' res) {cC : ClassId} (hat : ClassAt s Cn cC) (cw : va_CS R s args own index y bytes maxL' ret' ws' rm' 0 0 n) (hKr : ql_K D tys' s)
    (isC isR : List Nat) (hC : isC.map (fun i => wc[i]?) = (w' u').map some) (hR : isR.map (fun i => wc[i]?) = wr.map some) (hnC : va_nd isC = true) (hnR : va_nd isR = true) (hdis : ∀ i ∈ isR, i ∉ isC)
    (hrc : ∃ cell : Cell, H[b]? = some cell ∧ cell.vm.isStatics = false ∧ s.vm.findClass Cn = some cell.cls) (hP : va_P D vwCl wc H) (hD : va_D A wc) (hS : va_S A s.heap H locs) (hl : ls.size = maxL) (hn : As.length = n) (hst : st0 = As.reverse ++ .ref b :: rest) (hroom : (rest.map fun v => v.category).sum ≤ 8) (hdg : decode cc pc = .ok (.invokespecial index, 3))
    (kk : ∀ (H1 : Heap) (locs1 : List Loc), va_P D vwCl (wr ++ w' res.2) H1 → va_D A (wr ++ w' res.2) → va_S A s.heap H1 locs1 → W p l e R s m args below meth c H1 locs1 0 0 Q (F0 m (pc + 3) ls (.int res.1 :: rest))) : W p l e R s m args below meth c H locs 0 0 Q (F0 m pc ls st0) := by
  obtain ⟨hx, hb, hr, hml, hown, hts, hlocks, hK, hA⟩ := C0
  have hPc := hP.sub isC (ql_fm _ _ hC)
  have hDc := hD.sub isC hnC hC
  have hFc := va_free (wc := w' u') hD hS hA isC hC
  refine va_calli (va_runSU hat (As := As) (rest := rest) ⟨hx, hb, hml, hown, hts⟩ (hM H.size) cw ⟨ql_Pre.blind, hrc, fun U hU hW => ⟨rfl, by rw [hU], by rw [hU]; exact hPc, hKr.warm hW, hDc.weaken (fun _ _ _ _ => trivial)⟩⟩ rfl hn hl hst (lv_room hroom) hdg ⟨Nat.zero_le _, Nat.zero_le _⟩) hS (fun q _ h => hFc q h) hFc (fun r u1 t H1 locs ht hvm hw hB hz1 hk1 hS => ?_)
  subst hw
  obtain ⟨hP1, hD1⟩ := hB
  rw [ht] at hP1
  obtain ⟨hP, hD⟩ := va_join hP hD isC isR hC hR hnR hdis hk1 hFc hP1 hD1
  exact kk H1 _ hP hD hS
theorem ql_subUi {σ' : Type} {w' : σ' → va_W} {u' : σ'} {res : Int32 × σ'} {wc wr : va_W} (C0 : ql_C p s m args meth c cc maxL ret ws own D tys A) (hM : ql_Mi l y ws' rm' D tys' w' (.ref b :: As) u' res) {x : MethodName} {owner : String} (cw : va_CU R s args own Cn owner index x y bytes maxL' ret' ws' rm' 0 0 n) (hKr : ql_K D tys' s)
    (isC isR : List Nat) (hC : isC.map (fun i => wc[i]?) = (w' u').map some) (hR : isR.map (fun i => wc[i]?) = wr.map some) (hnC : va_nd isC = true) (hnR : va_nd isR = true) (hdis : ∀ i ∈ isR, i ∉ isC)
    (hrc : ∃ cell : Cell, H[b]? = some cell ∧ cell.vm.isStatics = false ∧ s.vm.findClass Cn = some cell.cls) (hP : va_P D vwCl wc H) (hD : va_D A wc) (hS : va_S A s.heap H locs) (hl : ls.size = maxL) (hn : As.length = n) (hst : st0 = As.reverse ++ .ref b :: rest) (hroom : (rest.map fun v => v.category).sum ≤ 8) (hdg : decode cc pc = .ok (.invokevirtual index, 3))
    (kk : ∀ (H1 : Heap) (locs1 : List Loc), va_P D vwCl (wr ++ w' res.2) H1 → va_D A (wr ++ w' res.2) → va_S A s.heap H1 locs1 → W p l e R s m args below meth c H1 locs1 0 0 Q (F0 m (pc + 3) ls (.int res.1 :: rest))) : W p l e R s m args below meth c H locs 0 0 Q (F0 m pc ls st0) := by
  obtain ⟨hx, hb, hr, hml, hown, hts, hlocks, hK, hA⟩ := C0
  have hPc := hP.sub isC (ql_fm _ _ hC)
  have hDc := hD.sub isC hnC hC
  have hFc := va_free (wc := w' u') hD hS hA isC hC
  refine va_calli (va_runU (As := As) (rest := rest) ⟨hx, hb, hml, hown, hts⟩ (hM H.size) cw ⟨ql_Pre.blind, hrc, fun U hU hW => ⟨rfl, by rw [hU], by rw [hU]; exact hPc, hKr.warm hW, hDc.weaken (fun _ _ _ _ => trivial)⟩⟩ rfl hn hl hst (lv_room hroom) hdg ⟨Nat.zero_le _, Nat.zero_le _⟩) hS (fun q _ h => hFc q h) hFc (fun r u1 t H1 locs ht hvm hw hB hz1 hk1 hS => ?_)
  subst hw
  obtain ⟨hP1, hD1⟩ := hB
  rw [ht] at hP1
  obtain ⟨hP, hD⟩ := va_join hP hD isC isR hC hR hnR hdis hk1 hFc hP1 hD1
  exact kk H1 _ hP hD hS
end QLS
