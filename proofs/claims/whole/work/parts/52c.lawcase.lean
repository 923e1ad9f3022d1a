section LW
variable {p : Program} {l : Launch} {e : Env} {s : State} {m : MethodId} {below : List Frame} {meth : Method} {c : Code} {dC : Nat → ClassId} {dI : Nat → Nat → Nat} {cI cJ cB cP cQ cZ : ClassId} {b L i : Nat} {xs : Nat → Int32} {h g : Nat} {ad am : Nat → Nat} {aR : Nat} {adr : Nat → Nat} {aG : Nat} {adg : Nat → Nat} {aX : Nat} {adx : Nat → Nat} {aT : Nat} {kd adK adV : Nat → Nat} {ls : Array Slot} {u : ql_U} {z : ql_Z} {H : Heap} {locs : List Loc}
set_option maxHeartbeats 4000000 in
set_option maxRecDepth 100000 in
theorem lw_c4 (C0 : ql_C p s m #[Value.ref b] meth c code 4 ret wsL_law RL (dC, dI) (lw_tys cI cJ cB cP cQ cZ) (lw_A s)) (hE : ql_E adK adV (lw_A s) s s.heap) (hX : va_X b L xs s s.heap) (hbl : b < s.heap.size) (hi : i + 6 ≤ L) (hL : L ≤ 3072) (R : RR u z) (hW : lw_Wd s dC dI h ad aR adr aG adg aX adx aT kd cI cJ cB cP cQ cZ g am u z H locs) (hl : lv_has ls 4 [(3, .int (ii i)), (2, .ref g), (1, .ref h), (0, .ref b)])
    (kk : ∀ (u' : ql_U) (z' : ql_Z) (H1 : Heap) (locs1 : List Loc), RR u' z' → lw_Wd s dC dI h ad aR adr aG adg aX adx aT kd cI cJ cB cP cQ cZ g am u' z' H1 locs1 → W p l e room_1 s m #[Value.ref b] below meth c H1 locs1 600000 7302250 (lw_Z below #[Value.ref b] s) (F0 m 804 ls [])) : W p l e room_1 s m #[Value.ref b] below meth c H locs 600000 7302250 (lw_Z below #[Value.ref b] s) (F0 m 276 ls []) := by
  obtain ⟨hx, hb, hr, hml, hown, hts, hlocks, hK, hA⟩ := id C0
  obtain ⟨hPc, hDc, hPm, hDm, hap, hS⟩ := hW
  have hbA : ¬ lw_A s b := Nat.not_le.mpr hbl
  have hfz : 600000 ≤ room_1.cells ∧ 7302250 ≤ room_1.slots := ⟨Nat.le_of_ble_eq_true rfl, Nat.le_of_ble_eq_true rfl⟩
  have in1 : vp_in (ii i + 1) L := lw_in (k := 1) hi hL (by omega) rfl
  have in2 : vp_in (ii i + 2) L := lw_in (k := 2) hi hL (by omega) rfl
  obtain ⟨r, e1, e2⟩ := e_act (N := 1000) (v := u.1) R.1 (xs (ii i + 1).toNatClampNeg) (xs (ii i + 2).toNatClampNeg)
  refine lv_aload_n hx hb dL_law_276 rfl (lv_at hl 2 rfl) ?_
  refine lv_aload_n hx hb dL_law_277 rfl (lv_at hl 3 rfl) ?_
  refine lv_iload_n hx hb dL_law_278 rfl (lv_at hl 0 rfl) ?_
  refine lv_iconst (v := 1) hx hb dL_law_279 (by decide) ?_
  refine lv_iadd hx hb dL_law_280 ?_
  refine va_sld hx hb hX hbl hbA hS in1 dL_law_281 ?_
  refine lv_aload_n hx hb dL_law_282 rfl (lv_at hl 3 rfl) ?_
  refine lv_iload_n hx hb dL_law_283 rfl (lv_at hl 0 rfl) ?_
  refine lv_iconst (v := 2) hx hb dL_law_284 (by decide) ?_
  refine lv_iadd hx hb dL_law_285 ?_
  refine va_sld hx hb hX hbl hbA hS in2 dL_law_286 ?_
  refine lc_Ri (rest := []) C0 (c_X10_act l dC dI h ad aR adr aG adg aX adx aT kd cI cJ cB cP cQ u.2.2 1000 u.2.1 u.1 (xs (ii i + 1).toNatClampNeg) (xs (ii i + 2).toNatClampNeg) r e1) (cwV 2 hts gL_law_X10_act rfl rfl rfl qv_X10_act ⟨Nat.le_of_ble_eq_true rfl, Nat.le_of_ble_eq_true rfl⟩) (va_recv hK.1 hPc (ci := 10) (q0 := 0) rfl rfl) (hK.sub [0, 1, 2, 3, 4] rfl) hPc hS hfz hl.1 rfl rfl (Nat.le_of_ble_eq_true rfl) dL_law_287 (fun H1 locs1 hk hS => ?_)
  have hPc := ql_keep hPc hk
  have hPm := ql_keep hPm hk
  refine lv_aload_n hx hb dL_law_290 rfl (lv_at hl 1 rfl) ?_
  refine lv_aload_n hx hb dL_law_291 rfl (lv_at hl 3 rfl) ?_
  refine lv_iload_n hx hb dL_law_292 rfl (lv_at hl 0 rfl) ?_
  refine lv_iconst (v := 1) hx hb dL_law_293 (by decide) ?_
  refine lv_iadd hx hb dL_law_294 ?_
  refine va_sld hx hb hX hbl hbA hS in1 dL_law_295 ?_
  refine lv_aload_n hx hb dL_law_296 rfl (lv_at hl 3 rfl) ?_
  refine lv_iload_n hx hb dL_law_297 rfl (lv_at hl 0 rfl) ?_
  refine lv_iconst (v := 2) hx hb dL_law_298 (by decide) ?_
  refine lv_iadd hx hb dL_law_299 ?_
  refine va_sld hx hb hX hbl hbA hS in2 dL_law_300 ?_
  refine lc_Ri (rest := [.int r]) C0 (c_X11_act l dC dI g am cI cZ cJ 1000 z (xs (ii i + 1).toNatClampNeg) (xs (ii i + 2).toNatClampNeg) r e2) (cwV 2 hts gL_law_X11_act rfl rfl rfl qv_X11_act ⟨Nat.le_of_ble_eq_true rfl, Nat.le_of_ble_eq_true rfl⟩) (va_recv hK.1 hPm (ci := 11) (q0 := 0) rfl rfl) (hK.sub [0, 5, 1] rfl) hPm hS hfz hl.1 rfl rfl (Nat.le_of_ble_eq_true rfl) dL_law_301 (fun H1 locs1 hk hS => ?_)
  have hPc := ql_keep hPc hk
  have hPm := ql_keep hPm hk
  refine lv_icmp_eq (tgt := 804) hx hb dL_law_304 (by decide) (fun _ => ?_) (fun cz => absurd rfl cz)
  exact kk u z _ _ R ⟨hPc, hDc, hPm, hDm, hap, hS⟩
set_option maxHeartbeats 4000000 in
set_option maxRecDepth 100000 in
theorem lw_c5 (C0 : ql_C p s m #[Value.ref b] meth c code 4 ret wsL_law RL (dC, dI) (lw_tys cI cJ cB cP cQ cZ) (lw_A s)) (hE : ql_E adK adV (lw_A s) s s.heap) (hX : va_X b L xs s s.heap) (hbl : b < s.heap.size) (hi : i + 6 ≤ L) (hL : L ≤ 3072) (R : RR u z) (hW : lw_Wd s dC dI h ad aR adr aG adg aX adx aT kd cI cJ cB cP cQ cZ g am u z H locs) (hl : lv_has ls 4 [(3, .int (ii i)), (2, .ref g), (1, .ref h), (0, .ref b)])
    (kk : ∀ (u' : ql_U) (z' : ql_Z) (H1 : Heap) (locs1 : List Loc), RR u' z' → lw_Wd s dC dI h ad aR adr aG adg aX adx aT kd cI cJ cB cP cQ cZ g am u' z' H1 locs1 → W p l e room_1 s m #[Value.ref b] below meth c H1 locs1 600000 7302250 (lw_Z below #[Value.ref b] s) (F0 m 804 ls [])) : W p l e room_1 s m #[Value.ref b] below meth c H locs 600000 7302250 (lw_Z below #[Value.ref b] s) (F0 m 309 ls []) := by
  obtain ⟨hx, hb, hr, hml, hown, hts, hlocks, hK, hA⟩ := id C0
  obtain ⟨hPc, hDc, hPm, hDm, hap, hS⟩ := hW
  have hbA : ¬ lw_A s b := Nat.not_le.mpr hbl
  have hfz : 600000 ≤ room_1.cells ∧ 7302250 ≤ room_1.slots := ⟨Nat.le_of_ble_eq_true rfl, Nat.le_of_ble_eq_true rfl⟩
  have in1 : vp_in (ii i + 1) L := lw_in (k := 1) hi hL (by omega) rfl
  have in2 : vp_in (ii i + 2) L := lw_in (k := 2) hi hL (by omega) rfl
  obtain ⟨r, v', z', e1, e2, f1, f2⟩ := e_alike (N := 1000) (v := u.1) (by omega) R.1 (xs (ii i + 1).toNatClampNeg) (xs (ii i + 2).toNatClampNeg)
  refine lv_aload_n hx hb dL_law_309 rfl (lv_at hl 2 rfl) ?_
  refine lv_aload_n hx hb dL_law_310 rfl (lv_at hl 3 rfl) ?_
  refine lv_iload_n hx hb dL_law_311 rfl (lv_at hl 0 rfl) ?_
  refine lv_iconst (v := 1) hx hb dL_law_312 (by decide) ?_
  refine lv_iadd hx hb dL_law_313 ?_
  refine va_sld hx hb hX hbl hbA hS in1 dL_law_314 ?_
  refine lv_aload_n hx hb dL_law_315 rfl (lv_at hl 3 rfl) ?_
  refine lv_iload_n hx hb dL_law_316 rfl (lv_at hl 0 rfl) ?_
  refine lv_iconst (v := 2) hx hb dL_law_317 (by decide) ?_
  refine lv_iadd hx hb dL_law_318 ?_
  refine va_sld hx hb hX hbl hbA hS in2 dL_law_319 ?_
  refine lc_Vi (w := ql_cw h ad aR adr aG adg aX adx aT kd cI cJ cB cP cQ u.2.2 u.2.1) (rest := []) C0 (c_X10_alike l dC dI h ad aR adr aG adg aX adx aT kd cI cJ cB cP cQ u.2.2 1000 u.2.1 u.1 (xs (ii i + 1).toNatClampNeg) (xs (ii i + 2).toNatClampNeg) (r, v') e1) (cwV 2 hts gL_law_X10_alike rfl rfl rfl qv_X10_alike ⟨Nat.le_of_ble_eq_true rfl, Nat.le_of_ble_eq_true rfl⟩) (hK.sub [0, 1, 2, 3, 4] rfl) (va_recv hK.1 hPc (ci := 10) (q0 := 0) rfl rfl) hPc hDc hPm hap hS hfz hl.1 rfl rfl (Nat.le_of_ble_eq_true rfl) dL_law_320 (fun H locs hPc hDc hPm hap hS => ?_)
  refine lv_aload_n hx hb dL_law_323 rfl (lv_at hl 1 rfl) ?_
  refine lv_aload_n hx hb dL_law_324 rfl (lv_at hl 3 rfl) ?_
  refine lv_iload_n hx hb dL_law_325 rfl (lv_at hl 0 rfl) ?_
  refine lv_iconst (v := 1) hx hb dL_law_326 (by decide) ?_
  refine lv_iadd hx hb dL_law_327 ?_
  refine va_sld hx hb hX hbl hbA hS in1 dL_law_328 ?_
  refine lv_aload_n hx hb dL_law_329 rfl (lv_at hl 3 rfl) ?_
  refine lv_iload_n hx hb dL_law_330 rfl (lv_at hl 0 rfl) ?_
  refine lv_iconst (v := 2) hx hb dL_law_331 (by decide) ?_
  refine lv_iadd hx hb dL_law_332 ?_
  refine va_sld hx hb hX hbl hbA hS in2 dL_law_333 ?_
  refine lc_Vi (w := ql_mw g am cI cZ cJ) (rest := [.int r]) C0 (c_X11_alike l dC dI g am cI cZ cJ 1000 z (xs (ii i + 1).toNatClampNeg) (xs (ii i + 2).toNatClampNeg) (r, z') e2) (cwV 2 hts gL_law_X11_alike rfl rfl rfl qv_X11_alike ⟨Nat.le_of_ble_eq_true rfl, Nat.le_of_ble_eq_true rfl⟩) (hK.sub [0, 5, 1] rfl) (va_recv hK.1 hPm (ci := 11) (q0 := 0) rfl rfl) hPm hDm hPc hap.sy hS hfz hl.1 rfl rfl (Nat.le_of_ble_eq_true rfl) dL_law_334 (fun H locs hPm hDm hPc hap hS => ?_)
  have hap := hap.sy
  refine lv_icmp_eq (tgt := 804) hx hb dL_law_337 (by decide) (fun _ => ?_) (fun cz => absurd rfl cz)
  exact kk (v', u.2) z' _ _ (RR_f R f1 f2) ⟨hPc, hDc, hPm, hDm, hap, hS⟩
set_option maxHeartbeats 4000000 in
set_option maxRecDepth 100000 in
theorem lw_c6 (C0 : ql_C p s m #[Value.ref b] meth c code 4 ret wsL_law RL (dC, dI) (lw_tys cI cJ cB cP cQ cZ) (lw_A s)) (hE : ql_E adK adV (lw_A s) s s.heap) (hX : va_X b L xs s s.heap) (hbl : b < s.heap.size) (hi : i + 6 ≤ L) (hL : L ≤ 3072) (R : RR u z) (hW : lw_Wd s dC dI h ad aR adr aG adg aX adx aT kd cI cJ cB cP cQ cZ g am u z H locs) (hl : lv_has ls 4 [(3, .int (ii i)), (2, .ref g), (1, .ref h), (0, .ref b)])
    (kk : ∀ (u' : ql_U) (z' : ql_Z) (H1 : Heap) (locs1 : List Loc), RR u' z' → lw_Wd s dC dI h ad aR adr aG adg aX adx aT kd cI cJ cB cP cQ cZ g am u' z' H1 locs1 → W p l e room_1 s m #[Value.ref b] below meth c H1 locs1 600000 7302250 (lw_Z below #[Value.ref b] s) (F0 m 804 ls [])) : W p l e room_1 s m #[Value.ref b] below meth c H locs 600000 7302250 (lw_Z below #[Value.ref b] s) (F0 m 342 ls []) := by
  obtain ⟨hx, hb, hr, hml, hown, hts, hlocks, hK, hA⟩ := id C0
  obtain ⟨hPc, hDc, hPm, hDm, hap, hS⟩ := hW
  have hbA : ¬ lw_A s b := Nat.not_le.mpr hbl
  have hfz : 600000 ≤ room_1.cells ∧ 7302250 ≤ room_1.slots := ⟨Nat.le_of_ble_eq_true rfl, Nat.le_of_ble_eq_true rfl⟩
  have in1 : vp_in (ii i + 1) L := lw_in (k := 1) hi hL (by omega) rfl
  have in2 : vp_in (ii i + 2) L := lw_in (k := 2) hi hL (by omega) rfl
  obtain ⟨r, v', z', e1, e2, f1, f2⟩ := e_apart (N := 1000) (v := u.1) (by omega) R.1 (xs (ii i + 1).toNatClampNeg) (xs (ii i + 2).toNatClampNeg)
  refine lv_aload_n hx hb dL_law_342 rfl (lv_at hl 2 rfl) ?_
  refine lv_aload_n hx hb dL_law_343 rfl (lv_at hl 3 rfl) ?_
  refine lv_iload_n hx hb dL_law_344 rfl (lv_at hl 0 rfl) ?_
  refine lv_iconst (v := 1) hx hb dL_law_345 (by decide) ?_
  refine lv_iadd hx hb dL_law_346 ?_
  refine va_sld hx hb hX hbl hbA hS in1 dL_law_347 ?_
  refine lv_aload_n hx hb dL_law_348 rfl (lv_at hl 3 rfl) ?_
  refine lv_iload_n hx hb dL_law_349 rfl (lv_at hl 0 rfl) ?_
  refine lv_iconst (v := 2) hx hb dL_law_350 (by decide) ?_
  refine lv_iadd hx hb dL_law_351 ?_
  refine va_sld hx hb hX hbl hbA hS in2 dL_law_352 ?_
  refine lc_Vl (w := ql_cw h ad aR adr aG adg aX adx aT kd cI cJ cB cP cQ u.2.2 u.2.1) (rest := []) C0 (c_X10_apart l dC dI h ad aR adr aG adg aX adx aT kd cI cJ cB cP cQ u.2.2 1000 u.2.1 u.1 (xs (ii i + 1).toNatClampNeg) (xs (ii i + 2).toNatClampNeg) (r, v') e1) (cwV 2 hts gL_law_X10_apart rfl rfl rfl qv_X10_apart ⟨Nat.le_of_ble_eq_true rfl, Nat.le_of_ble_eq_true rfl⟩) (hK.sub [0, 1, 2, 3, 4] rfl) (va_recv hK.1 hPc (ci := 10) (q0 := 0) rfl rfl) hPc hDc hPm hap hS hfz hl.1 rfl rfl (Nat.le_of_ble_eq_true rfl) dL_law_353 (fun H locs hPc hDc hPm hap hS => ?_)
  refine lv_aload_n hx hb dL_law_356 rfl (lv_at hl 1 rfl) ?_
  refine lv_aload_n hx hb dL_law_357 rfl (lv_at hl 3 rfl) ?_
  refine lv_iload_n hx hb dL_law_358 rfl (lv_at hl 0 rfl) ?_
  refine lv_iconst (v := 1) hx hb dL_law_359 (by decide) ?_
  refine lv_iadd hx hb dL_law_360 ?_
  refine va_sld hx hb hX hbl hbA hS in1 dL_law_361 ?_
  refine lv_aload_n hx hb dL_law_362 rfl (lv_at hl 3 rfl) ?_
  refine lv_iload_n hx hb dL_law_363 rfl (lv_at hl 0 rfl) ?_
  refine lv_iconst (v := 2) hx hb dL_law_364 (by decide) ?_
  refine lv_iadd hx hb dL_law_365 ?_
  refine va_sld hx hb hX hbl hbA hS in2 dL_law_366 ?_
  refine lc_Vl (w := ql_mw g am cI cZ cJ) (rest := [.long r]) C0 (c_X11_apart l dC dI g am cI cZ cJ 1000 z (xs (ii i + 1).toNatClampNeg) (xs (ii i + 2).toNatClampNeg) (r, z') e2) (cwV 2 hts gL_law_X11_apart rfl rfl rfl qv_X11_apart ⟨Nat.le_of_ble_eq_true rfl, Nat.le_of_ble_eq_true rfl⟩) (hK.sub [0, 5, 1] rfl) (va_recv hK.1 hPm (ci := 11) (q0 := 0) rfl rfl) hPm hDm hPc hap.sy hS hfz hl.1 rfl rfl (Nat.le_of_ble_eq_true rfl) dL_law_367 (fun H locs hPm hDm hPc hap hS => ?_)
  have hap := hap.sy
  refine W.lcmp hx hb dL_law_370 ?_
  refine lv_if_eq (tgt := 804) hx hb dL_law_371 (by decide) (fun _ => ?_) (fun cz => absurd ((lc_eq r r).mpr rfl) cz)
  exact kk (v', u.2) z' _ _ (RR_f R f1 f2) ⟨hPc, hDc, hPm, hDm, hap, hS⟩
set_option maxHeartbeats 4000000 in
set_option maxRecDepth 100000 in
theorem lw_c7 (C0 : ql_C p s m #[Value.ref b] meth c code 4 ret wsL_law RL (dC, dI) (lw_tys cI cJ cB cP cQ cZ) (lw_A s)) (hE : ql_E adK adV (lw_A s) s s.heap) (hX : va_X b L xs s s.heap) (hbl : b < s.heap.size) (hi : i + 6 ≤ L) (hL : L ≤ 3072) (R : RR u z) (hW : lw_Wd s dC dI h ad aR adr aG adg aX adx aT kd cI cJ cB cP cQ cZ g am u z H locs) (hl : lv_has ls 4 [(3, .int (ii i)), (2, .ref g), (1, .ref h), (0, .ref b)])
    (kk : ∀ (u' : ql_U) (z' : ql_Z) (H1 : Heap) (locs1 : List Loc), RR u' z' → lw_Wd s dC dI h ad aR adr aG adg aX adx aT kd cI cJ cB cP cQ cZ g am u' z' H1 locs1 → W p l e room_1 s m #[Value.ref b] below meth c H1 locs1 600000 7302250 (lw_Z below #[Value.ref b] s) (F0 m 804 ls [])) : W p l e room_1 s m #[Value.ref b] below meth c H locs 600000 7302250 (lw_Z below #[Value.ref b] s) (F0 m 376 ls []) := by
  obtain ⟨hx, hb, hr, hml, hown, hts, hlocks, hK, hA⟩ := id C0
  obtain ⟨hPc, hDc, hPm, hDm, hap, hS⟩ := hW
  have hbA : ¬ lw_A s b := Nat.not_le.mpr hbl
  have hfz : 600000 ≤ room_1.cells ∧ 7302250 ≤ room_1.slots := ⟨Nat.le_of_ble_eq_true rfl, Nat.le_of_ble_eq_true rfl⟩
  have in1 : vp_in (ii i + 1) L := lw_in (k := 1) hi hL (by omega) rfl
  have in2 : vp_in (ii i + 2) L := lw_in (k := 2) hi hL (by omega) rfl
  obtain ⟨r, v', z', e1, e2, f1, f2⟩ := e_far (N := 1000) (v := u.1) (by omega) R.1 (xs (ii i + 1).toNatClampNeg) (xs (ii i + 2).toNatClampNeg)
  refine lv_aload_n hx hb dL_law_376 rfl (lv_at hl 2 rfl) ?_
  refine lv_aload_n hx hb dL_law_377 rfl (lv_at hl 3 rfl) ?_
  refine lv_iload_n hx hb dL_law_378 rfl (lv_at hl 0 rfl) ?_
  refine lv_iconst (v := 1) hx hb dL_law_379 (by decide) ?_
  refine lv_iadd hx hb dL_law_380 ?_
  refine va_sld hx hb hX hbl hbA hS in1 dL_law_381 ?_
  refine lv_aload_n hx hb dL_law_382 rfl (lv_at hl 3 rfl) ?_
  refine lv_iload_n hx hb dL_law_383 rfl (lv_at hl 0 rfl) ?_
  refine lv_iconst (v := 2) hx hb dL_law_384 (by decide) ?_
  refine lv_iadd hx hb dL_law_385 ?_
  refine va_sld hx hb hX hbl hbA hS in2 dL_law_386 ?_
  refine lc_Vi (w := ql_cw h ad aR adr aG adg aX adx aT kd cI cJ cB cP cQ u.2.2 u.2.1) (rest := []) C0 (c_X10_far l dC dI h ad aR adr aG adg aX adx aT kd cI cJ cB cP cQ u.2.2 1000 u.2.1 u.1 (xs (ii i + 1).toNatClampNeg) (xs (ii i + 2).toNatClampNeg) (r, v') e1) (cwV 2 hts gL_law_X10_far rfl rfl rfl qv_X10_far ⟨Nat.le_of_ble_eq_true rfl, Nat.le_of_ble_eq_true rfl⟩) (hK.sub [0, 1, 2, 3, 4] rfl) (va_recv hK.1 hPc (ci := 10) (q0 := 0) rfl rfl) hPc hDc hPm hap hS hfz hl.1 rfl rfl (Nat.le_of_ble_eq_true rfl) dL_law_387 (fun H locs hPc hDc hPm hap hS => ?_)
  refine lv_aload_n hx hb dL_law_390 rfl (lv_at hl 1 rfl) ?_
  refine lv_aload_n hx hb dL_law_391 rfl (lv_at hl 3 rfl) ?_
  refine lv_iload_n hx hb dL_law_392 rfl (lv_at hl 0 rfl) ?_
  refine lv_iconst (v := 1) hx hb dL_law_393 (by decide) ?_
  refine lv_iadd hx hb dL_law_394 ?_
  refine va_sld hx hb hX hbl hbA hS in1 dL_law_395 ?_
  refine lv_aload_n hx hb dL_law_396 rfl (lv_at hl 3 rfl) ?_
  refine lv_iload_n hx hb dL_law_397 rfl (lv_at hl 0 rfl) ?_
  refine lv_iconst (v := 2) hx hb dL_law_398 (by decide) ?_
  refine lv_iadd hx hb dL_law_399 ?_
  refine va_sld hx hb hX hbl hbA hS in2 dL_law_400 ?_
  refine lc_Vi (w := ql_mw g am cI cZ cJ) (rest := [.int r]) C0 (c_X11_far l dC dI g am cI cZ cJ 1000 z (xs (ii i + 1).toNatClampNeg) (xs (ii i + 2).toNatClampNeg) (r, z') e2) (cwV 2 hts gL_law_X11_far rfl rfl rfl qv_X11_far ⟨Nat.le_of_ble_eq_true rfl, Nat.le_of_ble_eq_true rfl⟩) (hK.sub [0, 5, 1] rfl) (va_recv hK.1 hPm (ci := 11) (q0 := 0) rfl rfl) hPm hDm hPc hap.sy hS hfz hl.1 rfl rfl (Nat.le_of_ble_eq_true rfl) dL_law_401 (fun H locs hPm hDm hPc hap hS => ?_)
  have hap := hap.sy
  refine lv_icmp_eq (tgt := 804) hx hb dL_law_404 (by decide) (fun _ => ?_) (fun cz => absurd rfl cz)
  exact kk (v', u.2) z' _ _ (RR_f R f1 f2) ⟨hPc, hDc, hPm, hDm, hap, hS⟩
set_option maxHeartbeats 4000000 in
set_option maxRecDepth 100000 in
theorem lw_c8 (C0 : ql_C p s m #[Value.ref b] meth c code 4 ret wsL_law RL (dC, dI) (lw_tys cI cJ cB cP cQ cZ) (lw_A s)) (hE : ql_E adK adV (lw_A s) s s.heap) (hX : va_X b L xs s s.heap) (hbl : b < s.heap.size) (hi : i + 6 ≤ L) (hL : L ≤ 3072) (R : RR u z) (hW : lw_Wd s dC dI h ad aR adr aG adg aX adx aT kd cI cJ cB cP cQ cZ g am u z H locs) (hl : lv_has ls 4 [(3, .int (ii i)), (2, .ref g), (1, .ref h), (0, .ref b)])
    (kk : ∀ (u' : ql_U) (z' : ql_Z) (H1 : Heap) (locs1 : List Loc), RR u' z' → lw_Wd s dC dI h ad aR adr aG adg aX adx aT kd cI cJ cB cP cQ cZ g am u' z' H1 locs1 → W p l e room_1 s m #[Value.ref b] below meth c H1 locs1 600000 7302250 (lw_Z below #[Value.ref b] s) (F0 m 804 ls [])) : W p l e room_1 s m #[Value.ref b] below meth c H locs 600000 7302250 (lw_Z below #[Value.ref b] s) (F0 m 409 ls []) := by
  obtain ⟨hx, hb, hr, hml, hown, hts, hlocks, hK, hA⟩ := id C0
  obtain ⟨hPc, hDc, hPm, hDm, hap, hS⟩ := hW
  have hbA : ¬ lw_A s b := Nat.not_le.mpr hbl
  have hfz : 600000 ≤ room_1.cells ∧ 7302250 ≤ room_1.slots := ⟨Nat.le_of_ble_eq_true rfl, Nat.le_of_ble_eq_true rfl⟩
  have in1 : vp_in (ii i + 1) L := lw_in (k := 1) hi hL (by omega) rfl
  have in2 : vp_in (ii i + 2) L := lw_in (k := 2) hi hL (by omega) rfl
  obtain ⟨r, v', z', e1, e2, f1, f2⟩ := e_within (N := 1000) (v := u.1) (by omega) R.1 (xs (ii i + 1).toNatClampNeg) (xs (ii i + 2).toNatClampNeg)
  refine lv_aload_n hx hb dL_law_409 rfl (lv_at hl 2 rfl) ?_
  refine lv_aload_n hx hb dL_law_410 rfl (lv_at hl 3 rfl) ?_
  refine lv_iload_n hx hb dL_law_411 rfl (lv_at hl 0 rfl) ?_
  refine lv_iconst (v := 1) hx hb dL_law_412 (by decide) ?_
  refine lv_iadd hx hb dL_law_413 ?_
  refine va_sld hx hb hX hbl hbA hS in1 dL_law_414 ?_
  refine lv_aload_n hx hb dL_law_415 rfl (lv_at hl 3 rfl) ?_
  refine lv_iload_n hx hb dL_law_416 rfl (lv_at hl 0 rfl) ?_
  refine lv_iconst (v := 2) hx hb dL_law_417 (by decide) ?_
  refine lv_iadd hx hb dL_law_418 ?_
  refine va_sld hx hb hX hbl hbA hS in2 dL_law_419 ?_
  refine lc_Vi (w := ql_cw h ad aR adr aG adg aX adx aT kd cI cJ cB cP cQ u.2.2 u.2.1) (rest := []) C0 (c_X10_within l dC dI h ad aR adr aG adg aX adx aT kd cI cJ cB cP cQ u.2.2 1000 u.2.1 u.1 (xs (ii i + 1).toNatClampNeg) (xs (ii i + 2).toNatClampNeg) (r, v') e1) (cwV 2 hts gL_law_X10_within rfl rfl rfl qv_X10_within ⟨Nat.le_of_ble_eq_true rfl, Nat.le_of_ble_eq_true rfl⟩) (hK.sub [0, 1, 2, 3, 4] rfl) (va_recv hK.1 hPc (ci := 10) (q0 := 0) rfl rfl) hPc hDc hPm hap hS hfz hl.1 rfl rfl (Nat.le_of_ble_eq_true rfl) dL_law_420 (fun H locs hPc hDc hPm hap hS => ?_)
  refine lv_aload_n hx hb dL_law_423 rfl (lv_at hl 1 rfl) ?_
  refine lv_aload_n hx hb dL_law_424 rfl (lv_at hl 3 rfl) ?_
  refine lv_iload_n hx hb dL_law_425 rfl (lv_at hl 0 rfl) ?_
  refine lv_iconst (v := 1) hx hb dL_law_426 (by decide) ?_
  refine lv_iadd hx hb dL_law_427 ?_
  refine va_sld hx hb hX hbl hbA hS in1 dL_law_428 ?_
  refine lv_aload_n hx hb dL_law_429 rfl (lv_at hl 3 rfl) ?_
  refine lv_iload_n hx hb dL_law_430 rfl (lv_at hl 0 rfl) ?_
  refine lv_iconst (v := 2) hx hb dL_law_431 (by decide) ?_
  refine lv_iadd hx hb dL_law_432 ?_
  refine va_sld hx hb hX hbl hbA hS in2 dL_law_433 ?_
  refine lc_Vi (w := ql_mw g am cI cZ cJ) (rest := [.int r]) C0 (c_X11_within l dC dI g am cI cZ cJ 1000 z (xs (ii i + 1).toNatClampNeg) (xs (ii i + 2).toNatClampNeg) (r, z') e2) (cwV 2 hts gL_law_X11_within rfl rfl rfl qv_X11_within ⟨Nat.le_of_ble_eq_true rfl, Nat.le_of_ble_eq_true rfl⟩) (hK.sub [0, 5, 1] rfl) (va_recv hK.1 hPm (ci := 11) (q0 := 0) rfl rfl) hPm hDm hPc hap.sy hS hfz hl.1 rfl rfl (Nat.le_of_ble_eq_true rfl) dL_law_434 (fun H locs hPm hDm hPc hap hS => ?_)
  have hap := hap.sy
  refine lv_icmp_eq (tgt := 804) hx hb dL_law_437 (by decide) (fun _ => ?_) (fun cz => absurd rfl cz)
  exact kk (v', u.2) z' _ _ (RR_f R f1 f2) ⟨hPc, hDc, hPm, hDm, hap, hS⟩
end LW
