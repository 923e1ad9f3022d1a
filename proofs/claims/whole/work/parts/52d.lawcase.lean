section LW
variable {p : Program} {l : Launch} {e : Env} {s : State} {m : MethodId} {below : List Frame} {meth : Method} {c : Code} {dC : Nat → ClassId} {dI : Nat → Nat → Nat} {cI cJ cB cP cQ cZ : ClassId} {b L i : Nat} {xs : Nat → Int32} {h g : Nat} {ad am : Nat → Nat} {aR : Nat} {adr : Nat → Nat} {aG : Nat} {adg : Nat → Nat} {aX : Nat} {adx : Nat → Nat} {aT : Nat} {kd adK adV : Nat → Nat} {ls : Array Slot} {u : ql_U} {z : ql_Z} {H : Heap} {locs : List Loc}
set_option maxHeartbeats 4000000 in
set_option maxRecDepth 100000 in
theorem lw_c9 (C0 : ql_C p s m #[Value.ref b] meth c code 4 ret wsL_law RL (dC, dI) (lw_tys cI cJ cB cP cQ cZ) (lw_A s)) (hE : ql_E adK adV (lw_A s) s s.heap) (hX : va_X b L xs s s.heap) (hbl : b < s.heap.size) (hi : i + 6 ≤ L) (hL : L ≤ 3072) (R : RR u z) (hW : lw_Wd s dC dI h ad aR adr aG adg aX adx aT kd cI cJ cB cP cQ cZ g am u z H locs) (hl : lv_has ls 4 [(3, .int (ii i)), (2, .ref g), (1, .ref h), (0, .ref b)])
    (kk : ∀ (u' : ql_U) (z' : ql_Z) (H1 : Heap) (locs1 : List Loc), RR u' z' → lw_Wd s dC dI h ad aR adr aG adg aX adx aT kd cI cJ cB cP cQ cZ g am u' z' H1 locs1 → W p l e room_1 s m #[Value.ref b] below meth c H1 locs1 600000 7302250 (lw_Z below #[Value.ref b] s) (F0 m 804 ls [])) : W p l e room_1 s m #[Value.ref b] below meth c H locs 600000 7302250 (lw_Z below #[Value.ref b] s) (F0 m 442 ls []) := by
  obtain ⟨hx, hb, hr, hml, hown, hts, hlocks, hK, hA⟩ := id C0
  obtain ⟨hPc, hDc, hPm, hDm, hap, hS⟩ := hW
  have hbA : ¬ lw_A s b := Nat.not_le.mpr hbl
  have hfz : 600000 ≤ room_1.cells ∧ 7302250 ≤ room_1.slots := ⟨Nat.le_of_ble_eq_true rfl, Nat.le_of_ble_eq_true rfl⟩
  have in1 : vp_in (ii i + 1) L := lw_in (k := 1) hi hL (by omega) rfl
  obtain ⟨r, z', e1, e2, f2⟩ := e_dead (N := 1000) (v := u.1) (by omega) R.1 (xs (ii i + 1).toNatClampNeg)
  refine lv_aload_n hx hb dL_law_442 rfl (lv_at hl 2 rfl) ?_
  refine lv_aload_n hx hb dL_law_443 rfl (lv_at hl 3 rfl) ?_
  refine lv_iload_n hx hb dL_law_444 rfl (lv_at hl 0 rfl) ?_
  refine lv_iconst (v := 1) hx hb dL_law_445 (by decide) ?_
  refine lv_iadd hx hb dL_law_446 ?_
  refine va_sld hx hb hX hbl hbA hS in1 dL_law_447 ?_
  refine lc_Ri (rest := []) C0 (c_X10_dead l dC dI h ad aR adr aG adg aX adx aT kd cI cJ cB cP cQ u.2.2 1000 u.2.1 u.1 (xs (ii i + 1).toNatClampNeg) r e1) (cwV 1 hts gL_law_X10_dead rfl rfl rfl qv_X10_dead ⟨Nat.le_of_ble_eq_true rfl, Nat.le_of_ble_eq_true rfl⟩) (va_recv hK.1 hPc (ci := 10) (q0 := 0) rfl rfl) (hK.sub [0, 1, 2, 3, 4] rfl) hPc hS hfz hl.1 rfl rfl (Nat.le_of_ble_eq_true rfl) dL_law_448 (fun H1 locs1 hk hS => ?_)
  have hPc := ql_keep hPc hk
  have hPm := ql_keep hPm hk
  refine lv_aload_n hx hb dL_law_451 rfl (lv_at hl 1 rfl) ?_
  refine lv_aload_n hx hb dL_law_452 rfl (lv_at hl 3 rfl) ?_
  refine lv_iload_n hx hb dL_law_453 rfl (lv_at hl 0 rfl) ?_
  refine lv_iconst (v := 1) hx hb dL_law_454 (by decide) ?_
  refine lv_iadd hx hb dL_law_455 ?_
  refine va_sld hx hb hX hbl hbA hS in1 dL_law_456 ?_
  refine lc_Vi (w := ql_mw g am cI cZ cJ) (rest := [.int r]) C0 (c_X11_dead l dC dI g am cI cZ cJ 1000 z (xs (ii i + 1).toNatClampNeg) (r, z') e2) (cwV 1 hts gL_law_X11_dead rfl rfl rfl qv_X11_dead ⟨Nat.le_of_ble_eq_true rfl, Nat.le_of_ble_eq_true rfl⟩) (hK.sub [0, 5, 1] rfl) (va_recv hK.1 hPm (ci := 11) (q0 := 0) rfl rfl) hPm hDm hPc hap.sy hS hfz hl.1 rfl rfl (Nat.le_of_ble_eq_true rfl) dL_law_457 (fun H locs hPm hDm hPc hap hS => ?_)
  have hap := hap.sy
  refine lv_icmp_eq (tgt := 804) hx hb dL_law_460 (by decide) (fun _ => ?_) (fun cz => absurd rfl cz)
  exact kk u z' _ _ (RR_f R (fc_r _) f2) ⟨hPc, hDc, hPm, hDm, hap, hS⟩
set_option maxHeartbeats 4000000 in
set_option maxRecDepth 100000 in
theorem lw_c10 (C0 : ql_C p s m #[Value.ref b] meth c code 4 ret wsL_law RL (dC, dI) (lw_tys cI cJ cB cP cQ cZ) (lw_A s)) (hE : ql_E adK adV (lw_A s) s s.heap) (hX : va_X b L xs s s.heap) (hbl : b < s.heap.size) (hi : i + 6 ≤ L) (hL : L ≤ 3072) (R : RR u z) (hW : lw_Wd s dC dI h ad aR adr aG adg aX adx aT kd cI cJ cB cP cQ cZ g am u z H locs) (hl : lv_has ls 4 [(3, .int (ii i)), (2, .ref g), (1, .ref h), (0, .ref b)])
    (kk : ∀ (u' : ql_U) (z' : ql_Z) (H1 : Heap) (locs1 : List Loc), RR u' z' → lw_Wd s dC dI h ad aR adr aG adg aX adx aT kd cI cJ cB cP cQ cZ g am u' z' H1 locs1 → W p l e room_1 s m #[Value.ref b] below meth c H1 locs1 600000 7302250 (lw_Z below #[Value.ref b] s) (F0 m 804 ls [])) : W p l e room_1 s m #[Value.ref b] below meth c H locs 600000 7302250 (lw_Z below #[Value.ref b] s) (F0 m 465 ls []) := by
  obtain ⟨hx, hb, hr, hml, hown, hts, hlocks, hK, hA⟩ := id C0
  obtain ⟨hPc, hDc, hPm, hDm, hap, hS⟩ := hW
  have hbA : ¬ lw_A s b := Nat.not_le.mpr hbl
  have hfz : 600000 ≤ room_1.cells ∧ 7302250 ≤ room_1.slots := ⟨Nat.le_of_ble_eq_true rfl, Nat.le_of_ble_eq_true rfl⟩
  have in1 : vp_in (ii i + 1) L := lw_in (k := 1) hi hL (by omega) rfl
  obtain ⟨r, v', z', e1, e2, f1, f2⟩ := e_fewest (N := 1000) (v := u.1) (by omega) R.1 (xs (ii i + 1).toNatClampNeg)
  refine lv_aload_n hx hb dL_law_465 rfl (lv_at hl 2 rfl) ?_
  refine lv_aload_n hx hb dL_law_466 rfl (lv_at hl 3 rfl) ?_
  refine lv_iload_n hx hb dL_law_467 rfl (lv_at hl 0 rfl) ?_
  refine lv_iconst (v := 1) hx hb dL_law_468 (by decide) ?_
  refine lv_iadd hx hb dL_law_469 ?_
  refine va_sld hx hb hX hbl hbA hS in1 dL_law_470 ?_
  refine lc_Vi (w := ql_cw h ad aR adr aG adg aX adx aT kd cI cJ cB cP cQ u.2.2 u.2.1) (rest := []) C0 (c_X10_fewest l dC dI h ad aR adr aG adg aX adx aT kd cI cJ cB cP cQ u.2.2 1000 u.2.1 u.1 (xs (ii i + 1).toNatClampNeg) (r, v') e1) (cwV 1 hts gL_law_X10_fewest rfl rfl rfl qv_X10_fewest ⟨Nat.le_of_ble_eq_true rfl, Nat.le_of_ble_eq_true rfl⟩) (hK.sub [0, 1, 2, 3, 4] rfl) (va_recv hK.1 hPc (ci := 10) (q0 := 0) rfl rfl) hPc hDc hPm hap hS hfz hl.1 rfl rfl (Nat.le_of_ble_eq_true rfl) dL_law_471 (fun H locs hPc hDc hPm hap hS => ?_)
  refine lv_aload_n hx hb dL_law_474 rfl (lv_at hl 1 rfl) ?_
  refine lv_aload_n hx hb dL_law_475 rfl (lv_at hl 3 rfl) ?_
  refine lv_iload_n hx hb dL_law_476 rfl (lv_at hl 0 rfl) ?_
  refine lv_iconst (v := 1) hx hb dL_law_477 (by decide) ?_
  refine lv_iadd hx hb dL_law_478 ?_
  refine va_sld hx hb hX hbl hbA hS in1 dL_law_479 ?_
  refine lc_Vi (w := ql_mw g am cI cZ cJ) (rest := [.int r]) C0 (c_X11_fewest l dC dI g am cI cZ cJ 1000 z (xs (ii i + 1).toNatClampNeg) (r, z') e2) (cwV 1 hts gL_law_X11_fewest rfl rfl rfl qv_X11_fewest ⟨Nat.le_of_ble_eq_true rfl, Nat.le_of_ble_eq_true rfl⟩) (hK.sub [0, 5, 1] rfl) (va_recv hK.1 hPm (ci := 11) (q0 := 0) rfl rfl) hPm hDm hPc hap.sy hS hfz hl.1 rfl rfl (Nat.le_of_ble_eq_true rfl) dL_law_480 (fun H locs hPm hDm hPc hap hS => ?_)
  have hap := hap.sy
  refine lv_icmp_eq (tgt := 804) hx hb dL_law_483 (by decide) (fun _ => ?_) (fun cz => absurd rfl cz)
  exact kk (v', u.2) z' _ _ (RR_f R f1 f2) ⟨hPc, hDc, hPm, hDm, hap, hS⟩
set_option maxHeartbeats 4000000 in
set_option maxRecDepth 100000 in
theorem lw_c11 (C0 : ql_C p s m #[Value.ref b] meth c code 4 ret wsL_law RL (dC, dI) (lw_tys cI cJ cB cP cQ cZ) (lw_A s)) (hE : ql_E adK adV (lw_A s) s s.heap) (hX : va_X b L xs s s.heap) (hbl : b < s.heap.size) (hi : i + 6 ≤ L) (hL : L ≤ 3072) (R : RR u z) (hW : lw_Wd s dC dI h ad aR adr aG adg aX adx aT kd cI cJ cB cP cQ cZ g am u z H locs) (hl : lv_has ls 4 [(3, .int (ii i)), (2, .ref g), (1, .ref h), (0, .ref b)])
    (kk : ∀ (u' : ql_U) (z' : ql_Z) (H1 : Heap) (locs1 : List Loc), RR u' z' → lw_Wd s dC dI h ad aR adr aG adg aX adx aT kd cI cJ cB cP cQ cZ g am u' z' H1 locs1 → W p l e room_1 s m #[Value.ref b] below meth c H1 locs1 600000 7302250 (lw_Z below #[Value.ref b] s) (F0 m 804 ls [])) : W p l e room_1 s m #[Value.ref b] below meth c H locs 600000 7302250 (lw_Z below #[Value.ref b] s) (F0 m 488 ls []) := by
  obtain ⟨hx, hb, hr, hml, hown, hts, hlocks, hK, hA⟩ := id C0
  obtain ⟨hPc, hDc, hPm, hDm, hap, hS⟩ := hW
  have hbA : ¬ lw_A s b := Nat.not_le.mpr hbl
  have hfz : 600000 ≤ room_1.cells ∧ 7302250 ≤ room_1.slots := ⟨Nat.le_of_ble_eq_true rfl, Nat.le_of_ble_eq_true rfl⟩
  have in1 : vp_in (ii i + 1) L := lw_in (k := 1) hi hL (by omega) rfl
  have in2 : vp_in (ii i + 2) L := lw_in (k := 2) hi hL (by omega) rfl
  obtain ⟨r, z', e1, e2, f2⟩ := e_ahead (N := 1000) (v := u.1) (by omega) R.1 (xs (ii i + 1).toNatClampNeg) (xs (ii i + 2).toNatClampNeg)
  refine lv_aload_n hx hb dL_law_488 rfl (lv_at hl 2 rfl) ?_
  refine lv_aload_n hx hb dL_law_489 rfl (lv_at hl 3 rfl) ?_
  refine lv_iload_n hx hb dL_law_490 rfl (lv_at hl 0 rfl) ?_
  refine lv_iconst (v := 1) hx hb dL_law_491 (by decide) ?_
  refine lv_iadd hx hb dL_law_492 ?_
  refine va_sld hx hb hX hbl hbA hS in1 dL_law_493 ?_
  refine lv_aload_n hx hb dL_law_494 rfl (lv_at hl 3 rfl) ?_
  refine lv_iload_n hx hb dL_law_495 rfl (lv_at hl 0 rfl) ?_
  refine lv_iconst (v := 2) hx hb dL_law_496 (by decide) ?_
  refine lv_iadd hx hb dL_law_497 ?_
  refine va_sld hx hb hX hbl hbA hS in2 dL_law_498 ?_
  refine lc_Ri (rest := []) C0 (c_X10_ahead l dC dI h ad aR adr aG adg aX adx aT kd cI cJ cB cP cQ u.2.2 1000 u.2.1 u.1 (xs (ii i + 1).toNatClampNeg) (xs (ii i + 2).toNatClampNeg) r e1) (cwV 2 hts gL_law_X10_ahead rfl rfl rfl qv_X10_ahead ⟨Nat.le_of_ble_eq_true rfl, Nat.le_of_ble_eq_true rfl⟩) (va_recv hK.1 hPc (ci := 10) (q0 := 0) rfl rfl) (hK.sub [0, 1, 2, 3, 4] rfl) hPc hS hfz hl.1 rfl rfl (Nat.le_of_ble_eq_true rfl) dL_law_499 (fun H1 locs1 hk hS => ?_)
  have hPc := ql_keep hPc hk
  have hPm := ql_keep hPm hk
  refine lv_aload_n hx hb dL_law_502 rfl (lv_at hl 1 rfl) ?_
  refine lv_aload_n hx hb dL_law_503 rfl (lv_at hl 3 rfl) ?_
  refine lv_iload_n hx hb dL_law_504 rfl (lv_at hl 0 rfl) ?_
  refine lv_iconst (v := 1) hx hb dL_law_505 (by decide) ?_
  refine lv_iadd hx hb dL_law_506 ?_
  refine va_sld hx hb hX hbl hbA hS in1 dL_law_507 ?_
  refine lv_aload_n hx hb dL_law_508 rfl (lv_at hl 3 rfl) ?_
  refine lv_iload_n hx hb dL_law_509 rfl (lv_at hl 0 rfl) ?_
  refine lv_iconst (v := 2) hx hb dL_law_510 (by decide) ?_
  refine lv_iadd hx hb dL_law_511 ?_
  refine va_sld hx hb hX hbl hbA hS in2 dL_law_512 ?_
  refine lc_Vi (w := ql_mw g am cI cZ cJ) (rest := [.int r]) C0 (c_X11_ahead l dC dI g am cI cZ cJ 1000 z (xs (ii i + 1).toNatClampNeg) (xs (ii i + 2).toNatClampNeg) (r, z') e2) (cwV 2 hts gL_law_X11_ahead rfl rfl rfl qv_X11_ahead ⟨Nat.le_of_ble_eq_true rfl, Nat.le_of_ble_eq_true rfl⟩) (hK.sub [0, 5, 1] rfl) (va_recv hK.1 hPm (ci := 11) (q0 := 0) rfl rfl) hPm hDm hPc hap.sy hS hfz hl.1 rfl rfl (Nat.le_of_ble_eq_true rfl) dL_law_513 (fun H locs hPm hDm hPc hap hS => ?_)
  have hap := hap.sy
  refine lv_icmp_eq (tgt := 804) hx hb dL_law_516 (by decide) (fun _ => ?_) (fun cz => absurd rfl cz)
  exact kk u z' _ _ (RR_f R (fc_r _) f2) ⟨hPc, hDc, hPm, hDm, hap, hS⟩
set_option maxHeartbeats 4000000 in
set_option maxRecDepth 100000 in
theorem lw_c12 (C0 : ql_C p s m #[Value.ref b] meth c code 4 ret wsL_law RL (dC, dI) (lw_tys cI cJ cB cP cQ cZ) (lw_A s)) (hE : ql_E adK adV (lw_A s) s s.heap) (hX : va_X b L xs s s.heap) (hbl : b < s.heap.size) (hi : i + 6 ≤ L) (hL : L ≤ 3072) (R : RR u z) (hW : lw_Wd s dC dI h ad aR adr aG adg aX adx aT kd cI cJ cB cP cQ cZ g am u z H locs) (hl : lv_has ls 4 [(3, .int (ii i)), (2, .ref g), (1, .ref h), (0, .ref b)])
    (kk : ∀ (u' : ql_U) (z' : ql_Z) (H1 : Heap) (locs1 : List Loc), RR u' z' → lw_Wd s dC dI h ad aR adr aG adg aX adx aT kd cI cJ cB cP cQ cZ g am u' z' H1 locs1 → W p l e room_1 s m #[Value.ref b] below meth c H1 locs1 600000 7302250 (lw_Z below #[Value.ref b] s) (F0 m 804 ls [])) : W p l e room_1 s m #[Value.ref b] below meth c H locs 600000 7302250 (lw_Z below #[Value.ref b] s) (F0 m 521 ls []) := by
  obtain ⟨hx, hb, hr, hml, hown, hts, hlocks, hK, hA⟩ := id C0
  obtain ⟨hPc, hDc, hPm, hDm, hap, hS⟩ := hW
  have hbA : ¬ lw_A s b := Nat.not_le.mpr hbl
  have hfz : 600000 ≤ room_1.cells ∧ 7302250 ≤ room_1.slots := ⟨Nat.le_of_ble_eq_true rfl, Nat.le_of_ble_eq_true rfl⟩
  have in1 : vp_in (ii i + 1) L := lw_in (k := 1) hi hL (by omega) rfl
  have in2 : vp_in (ii i + 2) L := lw_in (k := 2) hi hL (by omega) rfl
  obtain ⟨r, z', e1, e2, f2⟩ := e_behind (N := 1000) (v := u.1) (by omega) R.1 (xs (ii i + 1).toNatClampNeg) (xs (ii i + 2).toNatClampNeg)
  refine lv_aload_n hx hb dL_law_521 rfl (lv_at hl 2 rfl) ?_
  refine lv_aload_n hx hb dL_law_522 rfl (lv_at hl 3 rfl) ?_
  refine lv_iload_n hx hb dL_law_523 rfl (lv_at hl 0 rfl) ?_
  refine lv_iconst (v := 1) hx hb dL_law_524 (by decide) ?_
  refine lv_iadd hx hb dL_law_525 ?_
  refine va_sld hx hb hX hbl hbA hS in1 dL_law_526 ?_
  refine lv_aload_n hx hb dL_law_527 rfl (lv_at hl 3 rfl) ?_
  refine lv_iload_n hx hb dL_law_528 rfl (lv_at hl 0 rfl) ?_
  refine lv_iconst (v := 2) hx hb dL_law_529 (by decide) ?_
  refine lv_iadd hx hb dL_law_530 ?_
  refine va_sld hx hb hX hbl hbA hS in2 dL_law_531 ?_
  refine lc_Ri (rest := []) C0 (c_X10_behind l dC dI h ad aR adr aG adg aX adx aT kd cI cJ cB cP cQ u.2.2 1000 u.2.1 u.1 (xs (ii i + 1).toNatClampNeg) (xs (ii i + 2).toNatClampNeg) r e1) (cwV 2 hts gL_law_X10_behind rfl rfl rfl qv_X10_behind ⟨Nat.le_of_ble_eq_true rfl, Nat.le_of_ble_eq_true rfl⟩) (va_recv hK.1 hPc (ci := 10) (q0 := 0) rfl rfl) (hK.sub [0, 1, 2, 3, 4] rfl) hPc hS hfz hl.1 rfl rfl (Nat.le_of_ble_eq_true rfl) dL_law_532 (fun H1 locs1 hk hS => ?_)
  have hPc := ql_keep hPc hk
  have hPm := ql_keep hPm hk
  refine lv_aload_n hx hb dL_law_535 rfl (lv_at hl 1 rfl) ?_
  refine lv_aload_n hx hb dL_law_536 rfl (lv_at hl 3 rfl) ?_
  refine lv_iload_n hx hb dL_law_537 rfl (lv_at hl 0 rfl) ?_
  refine lv_iconst (v := 1) hx hb dL_law_538 (by decide) ?_
  refine lv_iadd hx hb dL_law_539 ?_
  refine va_sld hx hb hX hbl hbA hS in1 dL_law_540 ?_
  refine lv_aload_n hx hb dL_law_541 rfl (lv_at hl 3 rfl) ?_
  refine lv_iload_n hx hb dL_law_542 rfl (lv_at hl 0 rfl) ?_
  refine lv_iconst (v := 2) hx hb dL_law_543 (by decide) ?_
  refine lv_iadd hx hb dL_law_544 ?_
  refine va_sld hx hb hX hbl hbA hS in2 dL_law_545 ?_
  refine lc_Vi (w := ql_mw g am cI cZ cJ) (rest := [.int r]) C0 (c_X11_behind l dC dI g am cI cZ cJ 1000 z (xs (ii i + 1).toNatClampNeg) (xs (ii i + 2).toNatClampNeg) (r, z') e2) (cwV 2 hts gL_law_X11_behind rfl rfl rfl qv_X11_behind ⟨Nat.le_of_ble_eq_true rfl, Nat.le_of_ble_eq_true rfl⟩) (hK.sub [0, 5, 1] rfl) (va_recv hK.1 hPm (ci := 11) (q0 := 0) rfl rfl) hPm hDm hPc hap.sy hS hfz hl.1 rfl rfl (Nat.le_of_ble_eq_true rfl) dL_law_546 (fun H locs hPm hDm hPc hap hS => ?_)
  have hap := hap.sy
  refine lv_icmp_eq (tgt := 804) hx hb dL_law_549 (by decide) (fun _ => ?_) (fun cz => absurd rfl cz)
  exact kk u z' _ _ (RR_f R (fc_r _) f2) ⟨hPc, hDc, hPm, hDm, hap, hS⟩
set_option maxHeartbeats 4000000 in
set_option maxRecDepth 100000 in
theorem lw_c13 (C0 : ql_C p s m #[Value.ref b] meth c code 4 ret wsL_law RL (dC, dI) (lw_tys cI cJ cB cP cQ cZ) (lw_A s)) (hE : ql_E adK adV (lw_A s) s s.heap) (hX : va_X b L xs s s.heap) (hbl : b < s.heap.size) (hi : i + 6 ≤ L) (hL : L ≤ 3072) (R : RR u z) (hW : lw_Wd s dC dI h ad aR adr aG adg aX adx aT kd cI cJ cB cP cQ cZ g am u z H locs) (hl : lv_has ls 4 [(3, .int (ii i)), (2, .ref g), (1, .ref h), (0, .ref b)])
    (kk : ∀ (u' : ql_U) (z' : ql_Z) (H1 : Heap) (locs1 : List Loc), RR u' z' → lw_Wd s dC dI h ad aR adr aG adg aX adx aT kd cI cJ cB cP cQ cZ g am u' z' H1 locs1 → W p l e room_1 s m #[Value.ref b] below meth c H1 locs1 600000 7302250 (lw_Z below #[Value.ref b] s) (F0 m 804 ls [])) : W p l e room_1 s m #[Value.ref b] below meth c H locs 600000 7302250 (lw_Z below #[Value.ref b] s) (F0 m 554 ls []) := by
  obtain ⟨hx, hb, hr, hml, hown, hts, hlocks, hK, hA⟩ := id C0
  obtain ⟨hPc, hDc, hPm, hDm, hap, hS⟩ := hW
  have hbA : ¬ lw_A s b := Nat.not_le.mpr hbl
  have hfz : 600000 ≤ room_1.cells ∧ 7302250 ≤ room_1.slots := ⟨Nat.le_of_ble_eq_true rfl, Nat.le_of_ble_eq_true rfl⟩
  have in1 : vp_in (ii i + 1) L := lw_in (k := 1) hi hL (by omega) rfl
  have in2 : vp_in (ii i + 2) L := lw_in (k := 2) hi hL (by omega) rfl
  obtain ⟨r, v', z', e1, e2, f1, f2⟩ := e_many (N := 1000) (v := u.1) (by omega) R.1 (xs (ii i + 1).toNatClampNeg) (xs (ii i + 2).toNatClampNeg)
  refine lv_aload_n hx hb dL_law_554 rfl (lv_at hl 2 rfl) ?_
  refine lv_aload_n hx hb dL_law_555 rfl (lv_at hl 3 rfl) ?_
  refine lv_iload_n hx hb dL_law_556 rfl (lv_at hl 0 rfl) ?_
  refine lv_iconst (v := 1) hx hb dL_law_557 (by decide) ?_
  refine lv_iadd hx hb dL_law_558 ?_
  refine va_sld hx hb hX hbl hbA hS in1 dL_law_559 ?_
  refine lv_aload_n hx hb dL_law_560 rfl (lv_at hl 3 rfl) ?_
  refine lv_iload_n hx hb dL_law_561 rfl (lv_at hl 0 rfl) ?_
  refine lv_iconst (v := 2) hx hb dL_law_562 (by decide) ?_
  refine lv_iadd hx hb dL_law_563 ?_
  refine va_sld hx hb hX hbl hbA hS in2 dL_law_564 ?_
  refine lc_Vl (w := ql_cw h ad aR adr aG adg aX adx aT kd cI cJ cB cP cQ u.2.2 u.2.1) (rest := []) C0 (c_X10_many l dC dI h ad aR adr aG adg aX adx aT kd cI cJ cB cP cQ u.2.2 1000 u.2.1 u.1 (xs (ii i + 1).toNatClampNeg) (xs (ii i + 2).toNatClampNeg) (r, v') e1) (cwV 2 hts gL_law_X10_many rfl rfl rfl qv_X10_many ⟨Nat.le_of_ble_eq_true rfl, Nat.le_of_ble_eq_true rfl⟩) (hK.sub [0, 1, 2, 3, 4] rfl) (va_recv hK.1 hPc (ci := 10) (q0 := 0) rfl rfl) hPc hDc hPm hap hS hfz hl.1 rfl rfl (Nat.le_of_ble_eq_true rfl) dL_law_565 (fun H locs hPc hDc hPm hap hS => ?_)
  refine lv_aload_n hx hb dL_law_568 rfl (lv_at hl 1 rfl) ?_
  refine lv_aload_n hx hb dL_law_569 rfl (lv_at hl 3 rfl) ?_
  refine lv_iload_n hx hb dL_law_570 rfl (lv_at hl 0 rfl) ?_
  refine lv_iconst (v := 1) hx hb dL_law_571 (by decide) ?_
  refine lv_iadd hx hb dL_law_572 ?_
  refine va_sld hx hb hX hbl hbA hS in1 dL_law_573 ?_
  refine lv_aload_n hx hb dL_law_574 rfl (lv_at hl 3 rfl) ?_
  refine lv_iload_n hx hb dL_law_575 rfl (lv_at hl 0 rfl) ?_
  refine lv_iconst (v := 2) hx hb dL_law_576 (by decide) ?_
  refine lv_iadd hx hb dL_law_577 ?_
  refine va_sld hx hb hX hbl hbA hS in2 dL_law_578 ?_
  refine lc_Vl (w := ql_mw g am cI cZ cJ) (rest := [.long r]) C0 (c_X11_many l dC dI g am cI cZ cJ 1000 z (xs (ii i + 1).toNatClampNeg) (xs (ii i + 2).toNatClampNeg) (r, z') e2) (cwV 2 hts gL_law_X11_many rfl rfl rfl qv_X11_many ⟨Nat.le_of_ble_eq_true rfl, Nat.le_of_ble_eq_true rfl⟩) (hK.sub [0, 5, 1] rfl) (va_recv hK.1 hPm (ci := 11) (q0 := 0) rfl rfl) hPm hDm hPc hap.sy hS hfz hl.1 rfl rfl (Nat.le_of_ble_eq_true rfl) dL_law_579 (fun H locs hPm hDm hPc hap hS => ?_)
  have hap := hap.sy
  refine W.lcmp hx hb dL_law_582 ?_
  refine lv_if_eq (tgt := 804) hx hb dL_law_583 (by decide) (fun _ => ?_) (fun cz => absurd ((lc_eq r r).mpr rfl) cz)
  exact kk (v', u.2) z' _ _ (RR_f R f1 f2) ⟨hPc, hDc, hPm, hDm, hap, hS⟩
end LW
